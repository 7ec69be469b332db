set_option maxRecDepth 20000 in
theorem c_X5_more (l : Launch) (D : va_G) (cA : Nat → ClassId) (n : Nat) (ad : Nat → Nat) (en : Nat → va_E) (hn : 68 ≤ n) {M : MO} (hM : MW cA ad en M) {S : xSt} (hW : WF S) (hR : MR S M) (z1 : Int) (hz1 : -2147483648 ≤ z1 ∧ z1 ≤ 2147483647) : Met l yX5_more (Cond.code yX5_more cX5_more 2 (some .int) :: xU) (xrm 2 45) (va_Pc [.ref (ad 53), .int (xI z1)] (xB D cA n ad en)) (vp_Si (fun z => z = xI (am_more S z1))) 0 0 (fun _ => False) := by
  refine xmet (by decide) (Nat.le_of_ble_eq_true rfl) (fun p e s mm args below meth c ls hx hb hrt hml hown hts hlocks hname hB hl => ?_)
  obtain ⟨hP, hK, hN⟩ := hB
  have hl : lv_has ls 2 [(0, .ref (ad 53)), (1, .int (xI z1))] := hl
  rcases Classical.em (0 ≤ z1 ∧ z1 < 2) with hx_z1 | hx_z1
  · obtain ⟨q1, rfl⟩ : ∃ q : Nat, z1 = (q : Int) := ⟨z1.toNat, by omega⟩
    have h_q1 : q1 < 2 := by omega
    rcases hS_q1 : S.2.2.2 q1 with _ | r_q1
    · have hz_q1 : M.cutMany q1 = -1 := by have q := hR.2.2.2 q1 h_q1; rw [hS_q1] at q; exact q
      refine lv_iload_n hx hb dX5_more_0 rfl (lv_at hl 1 rfl) ?_
      refine xt_i (As := [.int (xI (q1 : Int))]) (rest := []) ⟨hx, hb, hml, hown, hts⟩ hl.1 (c_X5_isCutter l (q1 : Int) (by omega)) k_X5_isCutter u_ml_RX5_170 rfl rfl (Nat.le_of_ble_eq_true rfl) ⟨Nat.le_of_ble_eq_true rfl, Nat.le_of_ble_eq_true rfl⟩ ⟨Nat.le_of_ble_eq_true rfl, Nat.le_of_ble_eq_true rfl⟩ dX5_more_1 ?_
      refine x_top (q1 := True) ⟨fun _ => trivial, fun _ => by omega⟩ ?_
      refine x_ifb_ne (tgt := 11) hx hb dX5_more_4 (by decide)  (fun c_4 => ?_) (fun c_4 => absurd trivial c_4)
      refine lv_aload_n hx hb dX5_more_11 rfl (lv_at hl 0 rfl) ?_
      refine x_get (T := TX5) (N := 17) hx hb hts uX5 hown hK hP (i := 53) (by omega) hM.1 rfl 12 (by decide) u_fl_RX5_40 rfl dX5_more_12 ?_
      refine lv_iload_n hx hb dX5_more_15 rfl (lv_at hl 1 rfl) ?_
      refine x_ild hx hb hK hP (i := 64) (by omega) hM.2.2.2.2.2.2.2.2.2.2.2.1 (x := -1) (by omega) (congrArg xI hz_q1) dX5_more_16 ?_
      refine x_if_ge (tgt := 24) hx hb dX5_more_17 (by decide) (by omega) (fun c_17 => absurd c_17 (by omega)) (fun c_17 => ?_)
      refine x_sipush hx hb dX5_more_20 (by decide +kernel) ?_
      exact xr_i hx hb hrt hlocks ((by unfold am_more; simp only [Int.toNat_natCast]; rw [sp_if_f (by omega), sp_if_t (by simp [hS_q1])])) dX5_more_23
    · have hc_q1 : MRc (some r_q1) (M.cutMany q1) (fun k => M.cut (200 * q1 + k)) (fun k => M.isCut (256 * q1 + k)) (M.cutGives q1) (M.cutAt q1) := by have q := hR.2.2.2 q1 h_q1; rw [hS_q1] at q; exact q
      obtain ⟨hz_q1, hcf_q1, hcs_q1, hcg_q1, hca_q1⟩ := hc_q1
      have hm_q1 := (hW.2.2.2.2 q1 r_q1 h_q1 hS_q1).1.1
      have hfb_q1 := (hW.2.2.2.2 q1 r_q1 h_q1 hS_q1).1.2
      have hp_q1 := (hW.2.2.2.2 q1 r_q1 h_q1 hS_q1).2
      refine lv_iload_n hx hb dX5_more_0 rfl (lv_at hl 1 rfl) ?_
      refine xt_i (As := [.int (xI (q1 : Int))]) (rest := []) ⟨hx, hb, hml, hown, hts⟩ hl.1 (c_X5_isCutter l (q1 : Int) (by omega)) k_X5_isCutter u_ml_RX5_170 rfl rfl (Nat.le_of_ble_eq_true rfl) ⟨Nat.le_of_ble_eq_true rfl, Nat.le_of_ble_eq_true rfl⟩ ⟨Nat.le_of_ble_eq_true rfl, Nat.le_of_ble_eq_true rfl⟩ dX5_more_1 ?_
      refine x_top (q1 := True) ⟨fun _ => trivial, fun _ => by omega⟩ ?_
      refine x_ifb_ne (tgt := 11) hx hb dX5_more_4 (by decide)  (fun c_4 => ?_) (fun c_4 => absurd trivial c_4)
      refine lv_aload_n hx hb dX5_more_11 rfl (lv_at hl 0 rfl) ?_
      refine x_get (T := TX5) (N := 17) hx hb hts uX5 hown hK hP (i := 53) (by omega) hM.1 rfl 12 (by decide) u_fl_RX5_40 rfl dX5_more_12 ?_
      refine lv_iload_n hx hb dX5_more_15 rfl (lv_at hl 1 rfl) ?_
      refine x_ild hx hb hK hP (i := 64) (by omega) hM.2.2.2.2.2.2.2.2.2.2.2.1 (x := (r_q1.1.1 : Int)) (by omega) (congrArg xI hz_q1) dX5_more_16 ?_
      refine x_if_ge (tgt := 24) hx hb dX5_more_17 (by decide) (by omega) (fun c_17 => ?_) (fun c_17 => absurd c_17 (by omega))
      refine lv_aload_n hx hb dX5_more_24 rfl (lv_at hl 0 rfl) ?_
      refine lv_iload_n hx hb dX5_more_25 rfl (lv_at hl 1 rfl) ?_
      refine lv_aload_n hx hb dX5_more_26 rfl (lv_at hl 0 rfl) ?_
      refine x_get (T := TX5) (N := 17) hx hb hts uX5 hown hK hP (i := 53) (by omega) hM.1 rfl 15 (by decide) u_fl_RX5_49 rfl dX5_more_27 ?_
      refine lv_iload_n hx hb dX5_more_30 rfl (lv_at hl 1 rfl) ?_
      refine x_ild hx hb hK hP (i := 67) (by omega) hM.2.2.2.2.2.2.2.2.2.2.2.2.2.2 (x := M.cutAt q1) (by omega) (rfl) dX5_more_31 ?_
      refine x_to ((r_q1.2.2.2 : Int)) (hca_q1) ?_
      have hts7 := sp_ts_b (G := r_q1.2.2.1) (S := r_q1.2.1) (f := r_q1.1.2) (m := (r_q1.1.1 : Int)) (a := (r_q1.2.2.2 : Int)) (by omega)
      refine xv_i (i := 53) (As := [.int (xI (q1 : Int)), .int (xI (r_q1.2.2.2 : Int))]) (rest := []) ⟨hx, hb, hml, hown, hts⟩ hl.1 (c_X5_beginOf l D cA n ad en hn hM q1 h_q1 hcf_q1 hfb_q1 hcs_q1 hm_q1 hz_q1 hcg_q1 (r_q1.2.2.2 : Int) (by omega)) k_X5_beginOf u_ml_RX5_164 hK hN hP (by omega) hM.1 rfl rfl rfl rfl (Nat.le_of_ble_eq_true rfl) ⟨Nat.le_of_ble_eq_true rfl, Nat.le_of_ble_eq_true rfl⟩ ⟨Nat.le_of_ble_eq_true rfl, Nat.le_of_ble_eq_true rfl⟩ dX5_more_32 ?_
      refine lv_aload_n hx hb dX5_more_35 rfl (lv_at hl 0 rfl) ?_
      refine x_get (T := TX5) (N := 17) hx hb hts uX5 hown hK hP (i := 53) (by omega) hM.1 rfl 12 (by decide) u_fl_RX5_40 rfl dX5_more_36 ?_
      refine lv_iload_n hx hb dX5_more_39 rfl (lv_at hl 1 rfl) ?_
      refine x_ild hx hb hK hP (i := 64) (by omega) hM.2.2.2.2.2.2.2.2.2.2.2.1 (x := (r_q1.1.1 : Int)) (by omega) (congrArg xI hz_q1) dX5_more_40 ?_
      refine x_icmp_ge (tgt := 48) hx hb dX5_more_41 (by decide) (by omega) (fun c_41 => ?_) (fun c_41 => ?_)
      · refine x_iconst hx hb dX5_more_48 ?_
        exact xr_i hx hb hrt hlocks ((by unfold am_more; simp only [Int.toNat_natCast]; simp only [sp_getc_s hS_q1]; rw [sp_if_f (by omega), sp_if_f (by simp [hS_q1])]; unfold sp_more; rw [xd_f (by omega)])) dX5_more_49
      · refine x_iconst hx hb dX5_more_44 ?_
        refine lv_goto (tgt := 49) hx hb dX5_more_45 (by decide) ?_
        exact xr_i hx hb hrt hlocks ((by unfold am_more; simp only [Int.toNat_natCast]; simp only [sp_getc_s hS_q1]; rw [sp_if_f (by omega), sp_if_f (by simp [hS_q1])]; unfold sp_more; rw [xd_t (by omega)])) dX5_more_49
  · refine lv_iload_n hx hb dX5_more_0 rfl (lv_at hl 1 rfl) ?_
    refine xt_i (As := [.int (xI z1)]) (rest := []) ⟨hx, hb, hml, hown, hts⟩ hl.1 (c_X5_isCutter l z1 (by omega)) k_X5_isCutter u_ml_RX5_170 rfl rfl (Nat.le_of_ble_eq_true rfl) ⟨Nat.le_of_ble_eq_true rfl, Nat.le_of_ble_eq_true rfl⟩ ⟨Nat.le_of_ble_eq_true rfl, Nat.le_of_ble_eq_true rfl⟩ dX5_more_1 ?_
    refine x_top (q1 := False) ⟨fun h => absurd h (by omega), False.elim⟩ ?_
    refine x_ifb_ne (tgt := 11) hx hb dX5_more_4 (by decide)  (fun c_4 => absurd c_4 id) (fun c_4 => ?_)
    refine x_sipush hx hb dX5_more_7 (by decide +kernel) ?_
    exact xr_i hx hb hrt hlocks ((by unfold am_more; rw [sp_if_t (by omega)])) dX5_more_10

set_option maxRecDepth 20000 in
theorem c_X5_left (l : Launch) (D : va_G) (cA : Nat → ClassId) (n : Nat) (ad : Nat → Nat) (en : Nat → va_E) (hn : 68 ≤ n) {M : MO} (hM : MW cA ad en M) {S : xSt} (hW : WF S) (hR : MR S M) (z1 : Int) (hz1 : -2147483648 ≤ z1 ∧ z1 ≤ 2147483647) : Met l yX5_left (Cond.code yX5_left cX5_left 2 (some .int) :: xU) (xrm 3 68) (va_Pc [.ref (ad 53), .int (xI z1)] (xB D cA n ad en)) (vp_Si (fun z => z = xI (am_left S z1))) 0 0 (fun _ => False) := by
  refine xmet (by decide) (Nat.le_of_ble_eq_true rfl) (fun p e s mm args below meth c ls hx hb hrt hml hown hts hlocks hname hB hl => ?_)
  obtain ⟨hP, hK, hN⟩ := hB
  have hl : lv_has ls 2 [(0, .ref (ad 53)), (1, .int (xI z1))] := hl
  rcases Classical.em (0 ≤ z1 ∧ z1 < 2) with hx_z1 | hx_z1
  · obtain ⟨q1, rfl⟩ : ∃ q : Nat, z1 = (q : Int) := ⟨z1.toNat, by omega⟩
    have h_q1 : q1 < 2 := by omega
    rcases hS_q1 : S.2.2.2 q1 with _ | r_q1
    · have hz_q1 : M.cutMany q1 = -1 := by have q := hR.2.2.2 q1 h_q1; rw [hS_q1] at q; exact q
      refine lv_iload_n hx hb dX5_left_0 rfl (lv_at hl 1 rfl) ?_
      refine xt_i (As := [.int (xI (q1 : Int))]) (rest := []) ⟨hx, hb, hml, hown, hts⟩ hl.1 (c_X5_isCutter l (q1 : Int) (by omega)) k_X5_isCutter u_ml_RX5_170 rfl rfl (Nat.le_of_ble_eq_true rfl) ⟨Nat.le_of_ble_eq_true rfl, Nat.le_of_ble_eq_true rfl⟩ ⟨Nat.le_of_ble_eq_true rfl, Nat.le_of_ble_eq_true rfl⟩ dX5_left_1 ?_
      refine x_top (q1 := True) ⟨fun _ => trivial, fun _ => by omega⟩ ?_
      refine x_ifb_ne (tgt := 11) hx hb dX5_left_4 (by decide)  (fun c_4 => ?_) (fun c_4 => absurd trivial c_4)
      refine lv_aload_n hx hb dX5_left_11 rfl (lv_at hl 0 rfl) ?_
      refine x_get (T := TX5) (N := 17) hx hb hts uX5 hown hK hP (i := 53) (by omega) hM.1 rfl 12 (by decide) u_fl_RX5_40 rfl dX5_left_12 ?_
      refine lv_iload_n hx hb dX5_left_15 rfl (lv_at hl 1 rfl) ?_
      refine x_ild hx hb hK hP (i := 64) (by omega) hM.2.2.2.2.2.2.2.2.2.2.2.1 (x := -1) (by omega) (congrArg xI hz_q1) dX5_left_16 ?_
      refine x_if_ge (tgt := 26) hx hb dX5_left_17 (by decide) (by omega) (fun c_17 => absurd c_17 (by omega)) (fun c_17 => ?_)
      refine x_sipush hx hb dX5_left_20 (by decide +kernel) ?_
      refine lv_goto (tgt := 31) hx hb dX5_left_23 (by decide) ?_
      exact xr_i hx hb hrt hlocks ((by unfold am_left; simp only [Int.toNat_natCast]; rw [sp_if_f (by omega), sp_if_t (by simp [hS_q1])])) dX5_left_31
    · have hc_q1 : MRc (some r_q1) (M.cutMany q1) (fun k => M.cut (200 * q1 + k)) (fun k => M.isCut (256 * q1 + k)) (M.cutGives q1) (M.cutAt q1) := by have q := hR.2.2.2 q1 h_q1; rw [hS_q1] at q; exact q
      obtain ⟨hz_q1, hcf_q1, hcs_q1, hcg_q1, hca_q1⟩ := hc_q1
      have hm_q1 := (hW.2.2.2.2 q1 r_q1 h_q1 hS_q1).1.1
      have hfb_q1 := (hW.2.2.2.2 q1 r_q1 h_q1 hS_q1).1.2
      have hp_q1 := (hW.2.2.2.2 q1 r_q1 h_q1 hS_q1).2
      refine lv_iload_n hx hb dX5_left_0 rfl (lv_at hl 1 rfl) ?_
      refine xt_i (As := [.int (xI (q1 : Int))]) (rest := []) ⟨hx, hb, hml, hown, hts⟩ hl.1 (c_X5_isCutter l (q1 : Int) (by omega)) k_X5_isCutter u_ml_RX5_170 rfl rfl (Nat.le_of_ble_eq_true rfl) ⟨Nat.le_of_ble_eq_true rfl, Nat.le_of_ble_eq_true rfl⟩ ⟨Nat.le_of_ble_eq_true rfl, Nat.le_of_ble_eq_true rfl⟩ dX5_left_1 ?_
      refine x_top (q1 := True) ⟨fun _ => trivial, fun _ => by omega⟩ ?_
      refine x_ifb_ne (tgt := 11) hx hb dX5_left_4 (by decide)  (fun c_4 => ?_) (fun c_4 => absurd trivial c_4)
      refine lv_aload_n hx hb dX5_left_11 rfl (lv_at hl 0 rfl) ?_
      refine x_get (T := TX5) (N := 17) hx hb hts uX5 hown hK hP (i := 53) (by omega) hM.1 rfl 12 (by decide) u_fl_RX5_40 rfl dX5_left_12 ?_
      refine lv_iload_n hx hb dX5_left_15 rfl (lv_at hl 1 rfl) ?_
      refine x_ild hx hb hK hP (i := 64) (by omega) hM.2.2.2.2.2.2.2.2.2.2.2.1 (x := (r_q1.1.1 : Int)) (by omega) (congrArg xI hz_q1) dX5_left_16 ?_
      refine x_if_ge (tgt := 26) hx hb dX5_left_17 (by decide) (by omega) (fun c_17 => ?_) (fun c_17 => absurd c_17 (by omega))
      refine lv_aload_n hx hb dX5_left_26 rfl (lv_at hl 0 rfl) ?_
      refine lv_iload_n hx hb dX5_left_27 rfl (lv_at hl 1 rfl) ?_
      refine xv_i (i := 53) (As := [.int (xI (q1 : Int))]) (rest := []) ⟨hx, hb, hml, hown, hts⟩ hl.1 (c_X5_leftOf l D cA n ad en hn hM q1 h_q1 hcf_q1 hfb_q1 hcs_q1 hm_q1 hz_q1 hcg_q1 r_q1.2.2.2 hca_q1 hp_q1) k_X5_leftOf u_ml_RX5_176 hK hN hP (by omega) hM.1 rfl rfl rfl rfl (Nat.le_of_ble_eq_true rfl) ⟨Nat.le_of_ble_eq_true rfl, Nat.le_of_ble_eq_true rfl⟩ ⟨Nat.le_of_ble_eq_true rfl, Nat.le_of_ble_eq_true rfl⟩ dX5_left_28 ?_
      exact xr_i hx hb hrt hlocks ((by unfold am_left; simp only [Int.toNat_natCast]; simp only [sp_getc_s hS_q1]; rw [sp_if_f (by omega), sp_if_f (by simp [hS_q1])]; rfl)) dX5_left_31
  · refine lv_iload_n hx hb dX5_left_0 rfl (lv_at hl 1 rfl) ?_
    refine xt_i (As := [.int (xI z1)]) (rest := []) ⟨hx, hb, hml, hown, hts⟩ hl.1 (c_X5_isCutter l z1 (by omega)) k_X5_isCutter u_ml_RX5_170 rfl rfl (Nat.le_of_ble_eq_true rfl) ⟨Nat.le_of_ble_eq_true rfl, Nat.le_of_ble_eq_true rfl⟩ ⟨Nat.le_of_ble_eq_true rfl, Nat.le_of_ble_eq_true rfl⟩ dX5_left_1 ?_
    refine x_top (q1 := False) ⟨fun h => absurd h (by omega), False.elim⟩ ?_
    refine x_ifb_ne (tgt := 11) hx hb dX5_left_4 (by decide)  (fun c_4 => absurd c_4 id) (fun c_4 => ?_)
    refine x_sipush hx hb dX5_left_7 (by decide +kernel) ?_
    exact xr_i hx hb hrt hlocks ((by unfold am_left; rw [sp_if_t (by omega)])) dX5_left_10

set_option maxRecDepth 20000 in
theorem c_X5_next (l : Launch) (D : va_G) (cA : Nat → ClassId) (n : Nat) (ad : Nat → Nat) (en : Nat → va_E) (sz : Nat) (hn : 68 ≤ n) {M : MO} (hM : MW cA ad en M) {S : xSt} (hW : WF S) (hR : MR S M) (z1 : Int) (hz1 : -2147483648 ≤ z1 ∧ z1 ≤ 2147483647) (z2 : Int) (hz2 : -2147483648 ≤ z2 ∧ z2 ≤ 2147483647) : Met l yX5_next (Cond.code yX5_next cX5_next 3 (some .int) :: xU) (xrm 3 70) (va_Pc [.ref (ad 53), .int (xI z1), .int (xI z2)] (xM D cA n ad en sz)) (va_Qi (fun r u => r = xI (am_next S z1 z2).1 ∧ ∃ M' : MO, MW cA ad u M' ∧ MR (am_next S z1 z2).2 M' ∧ xO 53 68 en u) (xE D n ad) (xA n ad sz)) 0 0 (xA n ad sz) := by
  refine xmet (by decide) (Nat.le_of_ble_eq_true rfl) (fun p e s mm args below meth c ls hx hb hrt hml hown hts hlocks hname hB hl => ?_)
  obtain ⟨⟨hP, hK, hN⟩, hsz, hDt⟩ := hB
  have hD : xD (xA n ad sz) n ad := xD_self hDt sz
  have hA : ∀ q : Nat, s.heap.size ≤ q → xA n ad sz q := fun q h => Or.inr (by rw [← hsz]; exact h)
  have hS : va_S (xA n ad sz) s.heap s.heap [] := va_S.rf
  have hown : s.vm.findClass RX5 = some mm.cls := hown
  have hl : lv_has ls 3 [(0, .ref (ad 53)), (1, .int (xI z1)), (2, .int (xI z2))] := hl
  have ho : xO 53 68 en en := xO.rf
  rcases Classical.em (0 ≤ z1 ∧ z1 < 2) with hx_z1 | hx_z1
  · obtain ⟨q1, rfl⟩ : ∃ q : Nat, z1 = (q : Int) := ⟨z1.toNat, by omega⟩
    have h_q1 : q1 < 2 := by omega
    rcases hS_q1 : S.2.2.2 q1 with _ | r_q1
    · rcases Classical.em (0 ≤ z2 ∧ z2 < 8) with hx_z2 | hx_z2
      · obtain ⟨t2, rfl⟩ : ∃ q : Nat, z2 = (q : Int) := ⟨z2.toNat, by omega⟩
        have h_t2 : t2 < 8 := by omega
        have hz_q1 : M.cutMany q1 = -1 := by have q := hR.2.2.2 q1 h_q1; rw [hS_q1] at q; exact q
        refine lv_iload_n hx hb dX5_next_0 rfl (lv_at hl 1 rfl) ?_
        refine xt_i (As := [.int (xI (q1 : Int))]) (rest := []) ⟨hx, hb, hml, hown, hts⟩ hl.1 (c_X5_isCutter l (q1 : Int) (by omega)) k_X5_isCutter u_ml_RX5_170 rfl rfl (Nat.le_of_ble_eq_true rfl) ⟨Nat.le_of_ble_eq_true rfl, Nat.le_of_ble_eq_true rfl⟩ ⟨Nat.le_of_ble_eq_true rfl, Nat.le_of_ble_eq_true rfl⟩ dX5_next_1 ?_
        refine x_top (q1 := True) ⟨fun _ => trivial, fun _ => by omega⟩ ?_
        refine x_ifb_eq (tgt := 14) hx hb dX5_next_4 (by decide)  (fun c_4 => absurd trivial c_4) (fun c_4 => ?_)
        refine lv_iload_n hx hb dX5_next_7 rfl (lv_at hl 2 rfl) ?_
        refine xt_i (As := [.int (xI (t2 : Int))]) (rest := []) ⟨hx, hb, hml, hown, hts⟩ hl.1 (c_X5_isText l (t2 : Int) (by omega)) k_X5_isText u_ml_RX5_87 rfl rfl (Nat.le_of_ble_eq_true rfl) ⟨Nat.le_of_ble_eq_true rfl, Nat.le_of_ble_eq_true rfl⟩ ⟨Nat.le_of_ble_eq_true rfl, Nat.le_of_ble_eq_true rfl⟩ dX5_next_8 ?_
        refine x_top (q1 := True) ⟨fun _ => trivial, fun _ => by omega⟩ ?_
        refine x_ifb_ne (tgt := 18) hx hb dX5_next_11 (by decide)  (fun c_11 => ?_) (fun c_11 => absurd trivial c_11)
        refine lv_aload_n hx hb dX5_next_18 rfl (lv_at hl 0 rfl) ?_
        refine x_get (T := TX5) (N := 17) hx hb hts uX5 hown hK hP (i := 53) (by omega) hM.1 rfl 12 (by decide) u_fl_RX5_40 rfl dX5_next_19 ?_
        refine lv_iload_n hx hb dX5_next_22 rfl (lv_at hl 1 rfl) ?_
        refine x_ild hx hb hK hP (i := 64) (by omega) hM.2.2.2.2.2.2.2.2.2.2.2.1 (x := -1) (by omega) (congrArg xI hz_q1) dX5_next_23 ?_
        refine x_if_ge (tgt := 33) hx hb dX5_next_24 (by decide) (by omega) (fun c_24 => absurd c_24 (by omega)) (fun c_24 => ?_)
        refine x_sipush hx hb dX5_next_27 (by decide +kernel) ?_
        refine lv_goto (tgt := 39) hx hb dX5_next_30 (by decide) ?_
        exact xe_i hx hb hrt hlocks hP hS ((by unfold am_next; simp only [Int.toNat_natCast]; rw [sp_if_f (by omega), sp_if_t (by simp [hS_q1])]; exact ⟨rfl, _, hM, hR, ho⟩)) dX5_next_39
      · have hz_q1 : M.cutMany q1 = -1 := by have q := hR.2.2.2 q1 h_q1; rw [hS_q1] at q; exact q
        refine lv_iload_n hx hb dX5_next_0 rfl (lv_at hl 1 rfl) ?_
        refine xt_i (As := [.int (xI (q1 : Int))]) (rest := []) ⟨hx, hb, hml, hown, hts⟩ hl.1 (c_X5_isCutter l (q1 : Int) (by omega)) k_X5_isCutter u_ml_RX5_170 rfl rfl (Nat.le_of_ble_eq_true rfl) ⟨Nat.le_of_ble_eq_true rfl, Nat.le_of_ble_eq_true rfl⟩ ⟨Nat.le_of_ble_eq_true rfl, Nat.le_of_ble_eq_true rfl⟩ dX5_next_1 ?_
        refine x_top (q1 := True) ⟨fun _ => trivial, fun _ => by omega⟩ ?_
        refine x_ifb_eq (tgt := 14) hx hb dX5_next_4 (by decide)  (fun c_4 => absurd trivial c_4) (fun c_4 => ?_)
        refine lv_iload_n hx hb dX5_next_7 rfl (lv_at hl 2 rfl) ?_
        refine xt_i (As := [.int (xI z2)]) (rest := []) ⟨hx, hb, hml, hown, hts⟩ hl.1 (c_X5_isText l z2 (by omega)) k_X5_isText u_ml_RX5_87 rfl rfl (Nat.le_of_ble_eq_true rfl) ⟨Nat.le_of_ble_eq_true rfl, Nat.le_of_ble_eq_true rfl⟩ ⟨Nat.le_of_ble_eq_true rfl, Nat.le_of_ble_eq_true rfl⟩ dX5_next_8 ?_
        refine x_top (q1 := False) ⟨fun h => absurd h (by omega), False.elim⟩ ?_
        refine x_ifb_ne (tgt := 18) hx hb dX5_next_11 (by decide)  (fun c_11 => absurd c_11 id) (fun c_11 => ?_)
        refine x_sipush hx hb dX5_next_14 (by decide +kernel) ?_
        exact xe_i hx hb hrt hlocks hP hS ((by unfold am_next; simp only [Int.toNat_natCast]; rw [sp_if_t (by omega)]; exact ⟨rfl, _, hM, hR, ho⟩)) dX5_next_17
    · rcases Classical.em (0 ≤ z2 ∧ z2 < 8) with hx_z2 | hx_z2
      · obtain ⟨t2, rfl⟩ : ∃ q : Nat, z2 = (q : Int) := ⟨z2.toNat, by omega⟩
        have h_t2 : t2 < 8 := by omega
        have hc_q1 : MRc (some r_q1) (M.cutMany q1) (fun k => M.cut (200 * q1 + k)) (fun k => M.isCut (256 * q1 + k)) (M.cutGives q1) (M.cutAt q1) := by have q := hR.2.2.2 q1 h_q1; rw [hS_q1] at q; exact q
        obtain ⟨hz_q1, hcf_q1, hcs_q1, hcg_q1, hca_q1⟩ := hc_q1
        have hm_q1 := (hW.2.2.2.2 q1 r_q1 h_q1 hS_q1).1.1
        have hfb_q1 := (hW.2.2.2.2 q1 r_q1 h_q1 hS_q1).1.2
        have hp_q1 := (hW.2.2.2.2 q1 r_q1 h_q1 hS_q1).2
        refine lv_iload_n hx hb dX5_next_0 rfl (lv_at hl 1 rfl) ?_
        refine xt_i (As := [.int (xI (q1 : Int))]) (rest := []) ⟨hx, hb, hml, hown, hts⟩ hl.1 (c_X5_isCutter l (q1 : Int) (by omega)) k_X5_isCutter u_ml_RX5_170 rfl rfl (Nat.le_of_ble_eq_true rfl) ⟨Nat.le_of_ble_eq_true rfl, Nat.le_of_ble_eq_true rfl⟩ ⟨Nat.le_of_ble_eq_true rfl, Nat.le_of_ble_eq_true rfl⟩ dX5_next_1 ?_
        refine x_top (q1 := True) ⟨fun _ => trivial, fun _ => by omega⟩ ?_
        refine x_ifb_eq (tgt := 14) hx hb dX5_next_4 (by decide)  (fun c_4 => absurd trivial c_4) (fun c_4 => ?_)
        refine lv_iload_n hx hb dX5_next_7 rfl (lv_at hl 2 rfl) ?_
        refine xt_i (As := [.int (xI (t2 : Int))]) (rest := []) ⟨hx, hb, hml, hown, hts⟩ hl.1 (c_X5_isText l (t2 : Int) (by omega)) k_X5_isText u_ml_RX5_87 rfl rfl (Nat.le_of_ble_eq_true rfl) ⟨Nat.le_of_ble_eq_true rfl, Nat.le_of_ble_eq_true rfl⟩ ⟨Nat.le_of_ble_eq_true rfl, Nat.le_of_ble_eq_true rfl⟩ dX5_next_8 ?_
        refine x_top (q1 := True) ⟨fun _ => trivial, fun _ => by omega⟩ ?_
        refine x_ifb_ne (tgt := 18) hx hb dX5_next_11 (by decide)  (fun c_11 => ?_) (fun c_11 => absurd trivial c_11)
        refine lv_aload_n hx hb dX5_next_18 rfl (lv_at hl 0 rfl) ?_
        refine x_get (T := TX5) (N := 17) hx hb hts uX5 hown hK hP (i := 53) (by omega) hM.1 rfl 12 (by decide) u_fl_RX5_40 rfl dX5_next_19 ?_
        refine lv_iload_n hx hb dX5_next_22 rfl (lv_at hl 1 rfl) ?_
        refine x_ild hx hb hK hP (i := 64) (by omega) hM.2.2.2.2.2.2.2.2.2.2.2.1 (x := (r_q1.1.1 : Int)) (by omega) (congrArg xI hz_q1) dX5_next_23 ?_
        refine x_if_ge (tgt := 33) hx hb dX5_next_24 (by decide) (by omega) (fun c_24 => ?_) (fun c_24 => absurd c_24 (by omega))
        refine lv_aload_n hx hb dX5_next_33 rfl (lv_at hl 0 rfl) ?_
        refine lv_iload_n hx hb dX5_next_34 rfl (lv_at hl 1 rfl) ?_
        refine lv_iload_n hx hb dX5_next_35 rfl (lv_at hl 2 rfl) ?_
        refine xm_i (i := 53) (As := [.int (xI (q1 : Int)), .int (xI (t2 : Int))]) (rest := []) ⟨hx, hb, hml, hown, hts⟩ hl.1 (c_X5_takes l D cA n ad en _ hn hM q1 h_q1 hcf_q1 hfb_q1 hcs_q1 hm_q1 hz_q1 hcg_q1 r_q1.2.2.2 hca_q1 hp_q1 t2 h_t2) k_X5_takes u_ml_RX5_179 hK hN hP (by omega) hM.1 rfl rfl rfl rfl (Nat.le_of_ble_eq_true rfl) ⟨Nat.le_of_ble_eq_true rfl, Nat.le_of_ble_eq_true rfl⟩ ⟨Nat.le_of_ble_eq_true rfl, Nat.le_of_ble_eq_true rfl⟩ dX5_next_36 hD hS hA (fun r1 en1 H locs hp1 hP hS => ?_)
        rcases hp1 with ⟨h1e, hrv, hM, ho2⟩ | ⟨h1e, ts, te, F9, T9, hts9, hte9, hrv, hT9, hU9, hM, ho2⟩
        · subst hrv
          have hM : MW cA ad en1 (mO M.built M.builtMany M.told M.toldMany M.row M.rowMany M.figures M.partText M.partFrom M.partMany M.parts M.cut (sp_up M.cutMany q1 (-1)) M.isCut M.cutGives M.cutAt M.h) := hM
          have ho := ho.tr ho2
          exact xe_i hx hb hrt hlocks hP hS ((by unfold am_next; simp only [Int.toNat_natCast]; simp only [sp_getc_s hS_q1]; rw [sp_if_f (by omega), sp_if_f (by simp [hS_q1])]; rw [sp_nxt_e (q := r_q1) h1e]; have q9 := hR.cutter hW h_q1 (o := none) (C' := M.cut) (G' := M.isCut) (V' := M.cutGives) (A' := M.cutAt) (z := -1) (gv := M.cutGives q1) (pl := M.cutAt q1) rfl (fun j _ => rfl) (fun j _ => rfl) ⟨rfl, fun _ _ => rfl⟩ ⟨rfl, fun _ _ => rfl⟩; exact ⟨rfl, _, hM, q9, ho⟩)) dX5_next_39
        · subst hrv
          have hM : MW cA ad en1 (mO M.built M.builtMany T9 (sp_up M.toldMany t2 ((te : Int) - (ts : Int))) F9 ((te : Int) - (ts : Int)) M.figures M.partText M.partFrom M.partMany M.parts M.cut M.cutMany M.isCut M.cutGives (sp_up M.cutAt q1 (te : Int)) M.h) := hM
          have ho := ho.tr ho2
          have htsb := sp_ts_b (G := r_q1.2.2.1) (S := r_q1.2.1) (f := r_q1.1.2) (m := (r_q1.1.1 : Int)) (a := (r_q1.2.2.2 : Int)) (by omega)
          have hteb := sp_te_b (S := r_q1.2.1) (f := r_q1.1.2) (m := (r_q1.1.1 : Int)) (a := sp_ts r_q1.2.2.1 r_q1.2.1 r_q1.1.2 (r_q1.1.1 : Int) (r_q1.2.2.2 : Int)) (by omega)
          exact xe_i hx hb hrt hlocks hP hS ((by unfold am_next; simp only [Int.toNat_natCast]; simp only [sp_getc_s hS_q1]; rw [sp_if_f (by omega), sp_if_f (by simp [hS_q1])]; rw [sp_nxt_g (q := r_q1) h1e, show sp_ct r_q1 = (ts : Int) from hts9.symm, show sp_ce r_q1 = (te : Int) from hte9.symm]; rw [show Int.toNat (ts : Int) = ts from rfl, show Int.toNat (te : Int) = te from rfl]; have qc := hR.cutter hW h_q1 (o := some (r_q1.1, r_q1.2.1, r_q1.2.2.1, te)) (C' := M.cut) (G' := M.isCut) (V' := M.cutGives) (A' := sp_up M.cutAt q1 (te : Int)) (z := M.cutMany q1) (gv := M.cutGives q1) (pl := (te : Int)) ⟨hz_q1, hcf_q1, hcs_q1, hcg_q1, rfl⟩ (fun j _ => rfl) (fun j _ => rfl) ⟨rfl, fun _ _ => rfl⟩ ⟨sp_up_s _ _ _, fun j hj => sp_up_n _ _ hj⟩; rw [sp_up_id] at qc; have qt := hR.text hW h_t2 (o := some ((Int.toNat ((te : Int) - (ts : Int)), fun k => r_q1.1.2 (ts + k)) : xRow)) (T' := T9) (z := ((te : Int) - (ts : Int))) ⟨(show (te : Int) - (ts : Int) = ((Int.toNat ((te : Int) - (ts : Int)) : Nat) : Int) from by omega), fun k hk => hT9 k (by have hk : k < Int.toNat ((te : Int) - (ts : Int)) := hk; omega)⟩ hU9; exact ⟨rfl, _, hM, ⟨hR.1, qt.2.1, hR.2.2.1, qc.2.2.2⟩, ho⟩)) dX5_next_39
      · have hc_q1 : MRc (some r_q1) (M.cutMany q1) (fun k => M.cut (200 * q1 + k)) (fun k => M.isCut (256 * q1 + k)) (M.cutGives q1) (M.cutAt q1) := by have q := hR.2.2.2 q1 h_q1; rw [hS_q1] at q; exact q
        obtain ⟨hz_q1, hcf_q1, hcs_q1, hcg_q1, hca_q1⟩ := hc_q1
        have hm_q1 := (hW.2.2.2.2 q1 r_q1 h_q1 hS_q1).1.1
        have hfb_q1 := (hW.2.2.2.2 q1 r_q1 h_q1 hS_q1).1.2
        have hp_q1 := (hW.2.2.2.2 q1 r_q1 h_q1 hS_q1).2
        refine lv_iload_n hx hb dX5_next_0 rfl (lv_at hl 1 rfl) ?_
        refine xt_i (As := [.int (xI (q1 : Int))]) (rest := []) ⟨hx, hb, hml, hown, hts⟩ hl.1 (c_X5_isCutter l (q1 : Int) (by omega)) k_X5_isCutter u_ml_RX5_170 rfl rfl (Nat.le_of_ble_eq_true rfl) ⟨Nat.le_of_ble_eq_true rfl, Nat.le_of_ble_eq_true rfl⟩ ⟨Nat.le_of_ble_eq_true rfl, Nat.le_of_ble_eq_true rfl⟩ dX5_next_1 ?_
        refine x_top (q1 := True) ⟨fun _ => trivial, fun _ => by omega⟩ ?_
        refine x_ifb_eq (tgt := 14) hx hb dX5_next_4 (by decide)  (fun c_4 => absurd trivial c_4) (fun c_4 => ?_)
        refine lv_iload_n hx hb dX5_next_7 rfl (lv_at hl 2 rfl) ?_
        refine xt_i (As := [.int (xI z2)]) (rest := []) ⟨hx, hb, hml, hown, hts⟩ hl.1 (c_X5_isText l z2 (by omega)) k_X5_isText u_ml_RX5_87 rfl rfl (Nat.le_of_ble_eq_true rfl) ⟨Nat.le_of_ble_eq_true rfl, Nat.le_of_ble_eq_true rfl⟩ ⟨Nat.le_of_ble_eq_true rfl, Nat.le_of_ble_eq_true rfl⟩ dX5_next_8 ?_
        refine x_top (q1 := False) ⟨fun h => absurd h (by omega), False.elim⟩ ?_
        refine x_ifb_ne (tgt := 18) hx hb dX5_next_11 (by decide)  (fun c_11 => absurd c_11 id) (fun c_11 => ?_)
        refine x_sipush hx hb dX5_next_14 (by decide +kernel) ?_
        exact xe_i hx hb hrt hlocks hP hS ((by unfold am_next; simp only [Int.toNat_natCast]; simp only [sp_getc_s hS_q1]; rw [sp_if_t (by omega)]; exact ⟨rfl, _, hM, hR, ho⟩)) dX5_next_17
  · rcases Classical.em (0 ≤ z2 ∧ z2 < 8) with hx_z2 | hx_z2
    · obtain ⟨t2, rfl⟩ : ∃ q : Nat, z2 = (q : Int) := ⟨z2.toNat, by omega⟩
      have h_t2 : t2 < 8 := by omega
      refine lv_iload_n hx hb dX5_next_0 rfl (lv_at hl 1 rfl) ?_
      refine xt_i (As := [.int (xI z1)]) (rest := []) ⟨hx, hb, hml, hown, hts⟩ hl.1 (c_X5_isCutter l z1 (by omega)) k_X5_isCutter u_ml_RX5_170 rfl rfl (Nat.le_of_ble_eq_true rfl) ⟨Nat.le_of_ble_eq_true rfl, Nat.le_of_ble_eq_true rfl⟩ ⟨Nat.le_of_ble_eq_true rfl, Nat.le_of_ble_eq_true rfl⟩ dX5_next_1 ?_
      refine x_top (q1 := False) ⟨fun h => absurd h (by omega), False.elim⟩ ?_
      refine x_ifb_eq (tgt := 14) hx hb dX5_next_4 (by decide)  (fun c_4 => ?_) (fun c_4 => absurd c_4 id)
      refine x_sipush hx hb dX5_next_14 (by decide +kernel) ?_
      exact xe_i hx hb hrt hlocks hP hS ((by unfold am_next; simp only [Int.toNat_natCast]; rw [sp_if_t (by omega)]; exact ⟨rfl, _, hM, hR, ho⟩)) dX5_next_17
    · refine lv_iload_n hx hb dX5_next_0 rfl (lv_at hl 1 rfl) ?_
      refine xt_i (As := [.int (xI z1)]) (rest := []) ⟨hx, hb, hml, hown, hts⟩ hl.1 (c_X5_isCutter l z1 (by omega)) k_X5_isCutter u_ml_RX5_170 rfl rfl (Nat.le_of_ble_eq_true rfl) ⟨Nat.le_of_ble_eq_true rfl, Nat.le_of_ble_eq_true rfl⟩ ⟨Nat.le_of_ble_eq_true rfl, Nat.le_of_ble_eq_true rfl⟩ dX5_next_1 ?_
      refine x_top (q1 := False) ⟨fun h => absurd h (by omega), False.elim⟩ ?_
      refine x_ifb_eq (tgt := 14) hx hb dX5_next_4 (by decide)  (fun c_4 => ?_) (fun c_4 => absurd c_4 id)
      refine x_sipush hx hb dX5_next_14 (by decide +kernel) ?_
      exact xe_i hx hb hrt hlocks hP hS ((by unfold am_next; rw [sp_if_t (by omega)]; exact ⟨rfl, _, hM, hR, ho⟩)) dX5_next_17

set_option maxRecDepth 20000 in
theorem c_X5_nextBy (l : Launch) (D : va_G) (cA : Nat → ClassId) (n : Nat) (ad : Nat → Nat) (en : Nat → va_E) (sz : Nat) (hn : 68 ≤ n) {M : MO} (hM : MW cA ad en M) {S : xSt} (hW : WF S) (hR : MR S M) (z1 : Int) (hz1 : -2147483648 ≤ z1 ∧ z1 ≤ 2147483647) (z2 : Int) (hz2 : -2147483648 ≤ z2 ∧ z2 ≤ 2147483647) (z3 : Int) (hz3 : -2147483648 ≤ z3 ∧ z3 ≤ 2147483647) : Met l yX5_nextBy (Cond.code yX5_nextBy cX5_nextBy 4 (some .int) :: xU) (xrm 3 70) (va_Pc [.ref (ad 53), .int (xI z1), .int (xI z2), .int (xI z3)] (xM D cA n ad en sz)) (va_Qi (fun r u => r = xI (am_nextBy S z1 z2 z3).1 ∧ ∃ M' : MO, MW cA ad u M' ∧ MR (am_nextBy S z1 z2 z3).2 M' ∧ xO 53 68 en u) (xE D n ad) (xA n ad sz)) 0 0 (xA n ad sz) := by
  refine xmet (by decide) (Nat.le_of_ble_eq_true rfl) (fun p e s mm args below meth c ls hx hb hrt hml hown hts hlocks hname hB hl => ?_)
  obtain ⟨⟨hP, hK, hN⟩, hsz, hDt⟩ := hB
  have hD : xD (xA n ad sz) n ad := xD_self hDt sz
  have hA : ∀ q : Nat, s.heap.size ≤ q → xA n ad sz q := fun q h => Or.inr (by rw [← hsz]; exact h)
  have hS : va_S (xA n ad sz) s.heap s.heap [] := va_S.rf
  have hown : s.vm.findClass RX5 = some mm.cls := hown
  have hl : lv_has ls 4 [(0, .ref (ad 53)), (1, .int (xI z1)), (2, .int (xI z2)), (3, .int (xI z3))] := hl
  have ho : xO 53 68 en en := xO.rf
  rcases Classical.em (0 ≤ z1 ∧ z1 < 2) with hx_z1 | hx_z1
  · obtain ⟨q1, rfl⟩ : ∃ q : Nat, z1 = (q : Int) := ⟨z1.toNat, by omega⟩
    have h_q1 : q1 < 2 := by omega
    rcases hS_q1 : S.2.2.2 q1 with _ | r_q1
    · rcases Classical.em (0 ≤ z2 ∧ z2 < 8) with hx_z2 | hx_z2
      · obtain ⟨t2, rfl⟩ : ∃ q : Nat, z2 = (q : Int) := ⟨z2.toNat, by omega⟩
        have h_t2 : t2 < 8 := by omega
        rcases hS_t2 : S.2.1 t2 with _ | r_t2
        · rcases Classical.em (0 ≤ z3 ∧ z3 < 8) with hx_z3 | hx_z3
          · obtain ⟨t3, rfl⟩ : ∃ q : Nat, z3 = (q : Int) := ⟨z3.toNat, by omega⟩
            have h_t3 : t3 < 8 := by omega
            have hz_q1 : M.cutMany q1 = -1 := by have q := hR.2.2.2 q1 h_q1; rw [hS_q1] at q; exact q
            have hz_t2 : M.toldMany t2 = -1 := by have q := hR.2.1 t2 h_t2; rw [hS_t2] at q; exact q
            refine lv_iload_n hx hb dX5_nextBy_0 rfl (lv_at hl 1 rfl) ?_
            refine xt_i (As := [.int (xI (q1 : Int))]) (rest := []) ⟨hx, hb, hml, hown, hts⟩ hl.1 (c_X5_isCutter l (q1 : Int) (by omega)) k_X5_isCutter u_ml_RX5_170 rfl rfl (Nat.le_of_ble_eq_true rfl) ⟨Nat.le_of_ble_eq_true rfl, Nat.le_of_ble_eq_true rfl⟩ ⟨Nat.le_of_ble_eq_true rfl, Nat.le_of_ble_eq_true rfl⟩ dX5_nextBy_1 ?_
            refine x_top (q1 := True) ⟨fun _ => trivial, fun _ => by omega⟩ ?_
            refine x_ifb_eq (tgt := 21) hx hb dX5_nextBy_4 (by decide)  (fun c_4 => absurd trivial c_4) (fun c_4 => ?_)
            refine lv_iload_n hx hb dX5_nextBy_7 rfl (lv_at hl 2 rfl) ?_
            refine xt_i (As := [.int (xI (t2 : Int))]) (rest := []) ⟨hx, hb, hml, hown, hts⟩ hl.1 (c_X5_isText l (t2 : Int) (by omega)) k_X5_isText u_ml_RX5_87 rfl rfl (Nat.le_of_ble_eq_true rfl) ⟨Nat.le_of_ble_eq_true rfl, Nat.le_of_ble_eq_true rfl⟩ ⟨Nat.le_of_ble_eq_true rfl, Nat.le_of_ble_eq_true rfl⟩ dX5_nextBy_8 ?_
            refine x_top (q1 := True) ⟨fun _ => trivial, fun _ => by omega⟩ ?_
            refine x_ifb_eq (tgt := 21) hx hb dX5_nextBy_11 (by decide)  (fun c_11 => absurd trivial c_11) (fun c_11 => ?_)
            refine lv_iload_n hx hb dX5_nextBy_14 rfl (lv_at hl 3 rfl) ?_
            refine xt_i (As := [.int (xI (t3 : Int))]) (rest := []) ⟨hx, hb, hml, hown, hts⟩ hl.1 (c_X5_isText l (t3 : Int) (by omega)) k_X5_isText u_ml_RX5_87 rfl rfl (Nat.le_of_ble_eq_true rfl) ⟨Nat.le_of_ble_eq_true rfl, Nat.le_of_ble_eq_true rfl⟩ ⟨Nat.le_of_ble_eq_true rfl, Nat.le_of_ble_eq_true rfl⟩ dX5_nextBy_15 ?_
            refine x_top (q1 := True) ⟨fun _ => trivial, fun _ => by omega⟩ ?_
            refine x_ifb_ne (tgt := 25) hx hb dX5_nextBy_18 (by decide)  (fun c_18 => ?_) (fun c_18 => absurd trivial c_18)
            refine lv_aload_n hx hb dX5_nextBy_25 rfl (lv_at hl 0 rfl) ?_
            refine x_get (T := TX5) (N := 17) hx hb hts uX5 hown hK hP (i := 53) (by omega) hM.1 rfl 12 (by decide) u_fl_RX5_40 rfl dX5_nextBy_26 ?_
            refine lv_iload_n hx hb dX5_nextBy_29 rfl (lv_at hl 1 rfl) ?_
            refine x_ild hx hb hK hP (i := 64) (by omega) hM.2.2.2.2.2.2.2.2.2.2.2.1 (x := -1) (by omega) (congrArg xI hz_q1) dX5_nextBy_30 ?_
            refine x_if_lt (tgt := 43) hx hb dX5_nextBy_31 (by decide) (by omega) (fun c_31 => ?_) (fun c_31 => absurd c_31 (by omega))
            refine x_sipush hx hb dX5_nextBy_43 (by decide +kernel) ?_
            exact xe_i hx hb hrt hlocks hP hS ((by unfold am_nextBy; simp only [Int.toNat_natCast]; rw [sp_if_f (by omega), sp_if_t (by simp [hS_q1, hS_t2])]; exact ⟨rfl, _, hM, hR, ho⟩)) dX5_nextBy_46
          · have hz_q1 : M.cutMany q1 = -1 := by have q := hR.2.2.2 q1 h_q1; rw [hS_q1] at q; exact q
            have hz_t2 : M.toldMany t2 = -1 := by have q := hR.2.1 t2 h_t2; rw [hS_t2] at q; exact q
            refine lv_iload_n hx hb dX5_nextBy_0 rfl (lv_at hl 1 rfl) ?_
            refine xt_i (As := [.int (xI (q1 : Int))]) (rest := []) ⟨hx, hb, hml, hown, hts⟩ hl.1 (c_X5_isCutter l (q1 : Int) (by omega)) k_X5_isCutter u_ml_RX5_170 rfl rfl (Nat.le_of_ble_eq_true rfl) ⟨Nat.le_of_ble_eq_true rfl, Nat.le_of_ble_eq_true rfl⟩ ⟨Nat.le_of_ble_eq_true rfl, Nat.le_of_ble_eq_true rfl⟩ dX5_nextBy_1 ?_
            refine x_top (q1 := True) ⟨fun _ => trivial, fun _ => by omega⟩ ?_
            refine x_ifb_eq (tgt := 21) hx hb dX5_nextBy_4 (by decide)  (fun c_4 => absurd trivial c_4) (fun c_4 => ?_)
            refine lv_iload_n hx hb dX5_nextBy_7 rfl (lv_at hl 2 rfl) ?_
            refine xt_i (As := [.int (xI (t2 : Int))]) (rest := []) ⟨hx, hb, hml, hown, hts⟩ hl.1 (c_X5_isText l (t2 : Int) (by omega)) k_X5_isText u_ml_RX5_87 rfl rfl (Nat.le_of_ble_eq_true rfl) ⟨Nat.le_of_ble_eq_true rfl, Nat.le_of_ble_eq_true rfl⟩ ⟨Nat.le_of_ble_eq_true rfl, Nat.le_of_ble_eq_true rfl⟩ dX5_nextBy_8 ?_
            refine x_top (q1 := True) ⟨fun _ => trivial, fun _ => by omega⟩ ?_
            refine x_ifb_eq (tgt := 21) hx hb dX5_nextBy_11 (by decide)  (fun c_11 => absurd trivial c_11) (fun c_11 => ?_)
            refine lv_iload_n hx hb dX5_nextBy_14 rfl (lv_at hl 3 rfl) ?_
            refine xt_i (As := [.int (xI z3)]) (rest := []) ⟨hx, hb, hml, hown, hts⟩ hl.1 (c_X5_isText l z3 (by omega)) k_X5_isText u_ml_RX5_87 rfl rfl (Nat.le_of_ble_eq_true rfl) ⟨Nat.le_of_ble_eq_true rfl, Nat.le_of_ble_eq_true rfl⟩ ⟨Nat.le_of_ble_eq_true rfl, Nat.le_of_ble_eq_true rfl⟩ dX5_nextBy_15 ?_
            refine x_top (q1 := False) ⟨fun h => absurd h (by omega), False.elim⟩ ?_
            refine x_ifb_ne (tgt := 25) hx hb dX5_nextBy_18 (by decide)  (fun c_18 => absurd c_18 id) (fun c_18 => ?_)
            refine x_sipush hx hb dX5_nextBy_21 (by decide +kernel) ?_
            exact xe_i hx hb hrt hlocks hP hS ((by unfold am_nextBy; simp only [Int.toNat_natCast]; rw [sp_if_t (by omega)]; exact ⟨rfl, _, hM, hR, ho⟩)) dX5_nextBy_24
        · rcases Classical.em (0 ≤ z3 ∧ z3 < 8) with hx_z3 | hx_z3
          · obtain ⟨t3, rfl⟩ : ∃ q : Nat, z3 = (q : Int) := ⟨z3.toNat, by omega⟩
            have h_t3 : t3 < 8 := by omega
            have hz_q1 : M.cutMany q1 = -1 := by have q := hR.2.2.2 q1 h_q1; rw [hS_q1] at q; exact q
            have hT_t2 : M.toldMany t2 = (r_t2.1 : Int) ∧ ∀ k : Nat, k < r_t2.1 → M.told (200 * t2 + k) = r_t2.2 k := by have q := hR.2.1 t2 h_t2; rw [hS_t2] at q; exact q
            have hz_t2 := hT_t2.1
            have hm_t2 := (hW.2.1 t2 r_t2 h_t2 hS_t2).1
            have hfb_t2 := (hW.2.1 t2 r_t2 h_t2 hS_t2).2
            refine lv_iload_n hx hb dX5_nextBy_0 rfl (lv_at hl 1 rfl) ?_
            refine xt_i (As := [.int (xI (q1 : Int))]) (rest := []) ⟨hx, hb, hml, hown, hts⟩ hl.1 (c_X5_isCutter l (q1 : Int) (by omega)) k_X5_isCutter u_ml_RX5_170 rfl rfl (Nat.le_of_ble_eq_true rfl) ⟨Nat.le_of_ble_eq_true rfl, Nat.le_of_ble_eq_true rfl⟩ ⟨Nat.le_of_ble_eq_true rfl, Nat.le_of_ble_eq_true rfl⟩ dX5_nextBy_1 ?_
            refine x_top (q1 := True) ⟨fun _ => trivial, fun _ => by omega⟩ ?_
            refine x_ifb_eq (tgt := 21) hx hb dX5_nextBy_4 (by decide)  (fun c_4 => absurd trivial c_4) (fun c_4 => ?_)
            refine lv_iload_n hx hb dX5_nextBy_7 rfl (lv_at hl 2 rfl) ?_
            refine xt_i (As := [.int (xI (t2 : Int))]) (rest := []) ⟨hx, hb, hml, hown, hts⟩ hl.1 (c_X5_isText l (t2 : Int) (by omega)) k_X5_isText u_ml_RX5_87 rfl rfl (Nat.le_of_ble_eq_true rfl) ⟨Nat.le_of_ble_eq_true rfl, Nat.le_of_ble_eq_true rfl⟩ ⟨Nat.le_of_ble_eq_true rfl, Nat.le_of_ble_eq_true rfl⟩ dX5_nextBy_8 ?_
            refine x_top (q1 := True) ⟨fun _ => trivial, fun _ => by omega⟩ ?_
            refine x_ifb_eq (tgt := 21) hx hb dX5_nextBy_11 (by decide)  (fun c_11 => absurd trivial c_11) (fun c_11 => ?_)
            refine lv_iload_n hx hb dX5_nextBy_14 rfl (lv_at hl 3 rfl) ?_
            refine xt_i (As := [.int (xI (t3 : Int))]) (rest := []) ⟨hx, hb, hml, hown, hts⟩ hl.1 (c_X5_isText l (t3 : Int) (by omega)) k_X5_isText u_ml_RX5_87 rfl rfl (Nat.le_of_ble_eq_true rfl) ⟨Nat.le_of_ble_eq_true rfl, Nat.le_of_ble_eq_true rfl⟩ ⟨Nat.le_of_ble_eq_true rfl, Nat.le_of_ble_eq_true rfl⟩ dX5_nextBy_15 ?_
            refine x_top (q1 := True) ⟨fun _ => trivial, fun _ => by omega⟩ ?_
            refine x_ifb_ne (tgt := 25) hx hb dX5_nextBy_18 (by decide)  (fun c_18 => ?_) (fun c_18 => absurd trivial c_18)
            refine lv_aload_n hx hb dX5_nextBy_25 rfl (lv_at hl 0 rfl) ?_
            refine x_get (T := TX5) (N := 17) hx hb hts uX5 hown hK hP (i := 53) (by omega) hM.1 rfl 12 (by decide) u_fl_RX5_40 rfl dX5_nextBy_26 ?_
            refine lv_iload_n hx hb dX5_nextBy_29 rfl (lv_at hl 1 rfl) ?_
            refine x_ild hx hb hK hP (i := 64) (by omega) hM.2.2.2.2.2.2.2.2.2.2.2.1 (x := -1) (by omega) (congrArg xI hz_q1) dX5_nextBy_30 ?_
            refine x_if_lt (tgt := 43) hx hb dX5_nextBy_31 (by decide) (by omega) (fun c_31 => ?_) (fun c_31 => absurd c_31 (by omega))
            refine x_sipush hx hb dX5_nextBy_43 (by decide +kernel) ?_
            exact xe_i hx hb hrt hlocks hP hS ((by unfold am_nextBy; simp only [Int.toNat_natCast]; simp only [sp_get_s hS_t2]; rw [sp_if_f (by omega), sp_if_t (by simp [hS_q1, hS_t2])]; exact ⟨rfl, _, hM, hR, ho⟩)) dX5_nextBy_46
          · have hz_q1 : M.cutMany q1 = -1 := by have q := hR.2.2.2 q1 h_q1; rw [hS_q1] at q; exact q
            have hT_t2 : M.toldMany t2 = (r_t2.1 : Int) ∧ ∀ k : Nat, k < r_t2.1 → M.told (200 * t2 + k) = r_t2.2 k := by have q := hR.2.1 t2 h_t2; rw [hS_t2] at q; exact q
            have hz_t2 := hT_t2.1
            have hm_t2 := (hW.2.1 t2 r_t2 h_t2 hS_t2).1
            have hfb_t2 := (hW.2.1 t2 r_t2 h_t2 hS_t2).2
            refine lv_iload_n hx hb dX5_nextBy_0 rfl (lv_at hl 1 rfl) ?_
            refine xt_i (As := [.int (xI (q1 : Int))]) (rest := []) ⟨hx, hb, hml, hown, hts⟩ hl.1 (c_X5_isCutter l (q1 : Int) (by omega)) k_X5_isCutter u_ml_RX5_170 rfl rfl (Nat.le_of_ble_eq_true rfl) ⟨Nat.le_of_ble_eq_true rfl, Nat.le_of_ble_eq_true rfl⟩ ⟨Nat.le_of_ble_eq_true rfl, Nat.le_of_ble_eq_true rfl⟩ dX5_nextBy_1 ?_
            refine x_top (q1 := True) ⟨fun _ => trivial, fun _ => by omega⟩ ?_
            refine x_ifb_eq (tgt := 21) hx hb dX5_nextBy_4 (by decide)  (fun c_4 => absurd trivial c_4) (fun c_4 => ?_)
            refine lv_iload_n hx hb dX5_nextBy_7 rfl (lv_at hl 2 rfl) ?_
            refine xt_i (As := [.int (xI (t2 : Int))]) (rest := []) ⟨hx, hb, hml, hown, hts⟩ hl.1 (c_X5_isText l (t2 : Int) (by omega)) k_X5_isText u_ml_RX5_87 rfl rfl (Nat.le_of_ble_eq_true rfl) ⟨Nat.le_of_ble_eq_true rfl, Nat.le_of_ble_eq_true rfl⟩ ⟨Nat.le_of_ble_eq_true rfl, Nat.le_of_ble_eq_true rfl⟩ dX5_nextBy_8 ?_
            refine x_top (q1 := True) ⟨fun _ => trivial, fun _ => by omega⟩ ?_
            refine x_ifb_eq (tgt := 21) hx hb dX5_nextBy_11 (by decide)  (fun c_11 => absurd trivial c_11) (fun c_11 => ?_)
            refine lv_iload_n hx hb dX5_nextBy_14 rfl (lv_at hl 3 rfl) ?_
            refine xt_i (As := [.int (xI z3)]) (rest := []) ⟨hx, hb, hml, hown, hts⟩ hl.1 (c_X5_isText l z3 (by omega)) k_X5_isText u_ml_RX5_87 rfl rfl (Nat.le_of_ble_eq_true rfl) ⟨Nat.le_of_ble_eq_true rfl, Nat.le_of_ble_eq_true rfl⟩ ⟨Nat.le_of_ble_eq_true rfl, Nat.le_of_ble_eq_true rfl⟩ dX5_nextBy_15 ?_
            refine x_top (q1 := False) ⟨fun h => absurd h (by omega), False.elim⟩ ?_
            refine x_ifb_ne (tgt := 25) hx hb dX5_nextBy_18 (by decide)  (fun c_18 => absurd c_18 id) (fun c_18 => ?_)
            refine x_sipush hx hb dX5_nextBy_21 (by decide +kernel) ?_
            exact xe_i hx hb hrt hlocks hP hS ((by unfold am_nextBy; simp only [Int.toNat_natCast]; simp only [sp_get_s hS_t2]; rw [sp_if_t (by omega)]; exact ⟨rfl, _, hM, hR, ho⟩)) dX5_nextBy_24
      · rcases Classical.em (0 ≤ z3 ∧ z3 < 8) with hx_z3 | hx_z3
        · obtain ⟨t3, rfl⟩ : ∃ q : Nat, z3 = (q : Int) := ⟨z3.toNat, by omega⟩
          have h_t3 : t3 < 8 := by omega
          have hz_q1 : M.cutMany q1 = -1 := by have q := hR.2.2.2 q1 h_q1; rw [hS_q1] at q; exact q
          refine lv_iload_n hx hb dX5_nextBy_0 rfl (lv_at hl 1 rfl) ?_
          refine xt_i (As := [.int (xI (q1 : Int))]) (rest := []) ⟨hx, hb, hml, hown, hts⟩ hl.1 (c_X5_isCutter l (q1 : Int) (by omega)) k_X5_isCutter u_ml_RX5_170 rfl rfl (Nat.le_of_ble_eq_true rfl) ⟨Nat.le_of_ble_eq_true rfl, Nat.le_of_ble_eq_true rfl⟩ ⟨Nat.le_of_ble_eq_true rfl, Nat.le_of_ble_eq_true rfl⟩ dX5_nextBy_1 ?_
          refine x_top (q1 := True) ⟨fun _ => trivial, fun _ => by omega⟩ ?_
          refine x_ifb_eq (tgt := 21) hx hb dX5_nextBy_4 (by decide)  (fun c_4 => absurd trivial c_4) (fun c_4 => ?_)
          refine lv_iload_n hx hb dX5_nextBy_7 rfl (lv_at hl 2 rfl) ?_
          refine xt_i (As := [.int (xI z2)]) (rest := []) ⟨hx, hb, hml, hown, hts⟩ hl.1 (c_X5_isText l z2 (by omega)) k_X5_isText u_ml_RX5_87 rfl rfl (Nat.le_of_ble_eq_true rfl) ⟨Nat.le_of_ble_eq_true rfl, Nat.le_of_ble_eq_true rfl⟩ ⟨Nat.le_of_ble_eq_true rfl, Nat.le_of_ble_eq_true rfl⟩ dX5_nextBy_8 ?_
          refine x_top (q1 := False) ⟨fun h => absurd h (by omega), False.elim⟩ ?_
          refine x_ifb_eq (tgt := 21) hx hb dX5_nextBy_11 (by decide)  (fun c_11 => ?_) (fun c_11 => absurd c_11 id)
          refine x_sipush hx hb dX5_nextBy_21 (by decide +kernel) ?_
          exact xe_i hx hb hrt hlocks hP hS ((by unfold am_nextBy; simp only [Int.toNat_natCast]; rw [sp_if_t (by omega)]; exact ⟨rfl, _, hM, hR, ho⟩)) dX5_nextBy_24
        · have hz_q1 : M.cutMany q1 = -1 := by have q := hR.2.2.2 q1 h_q1; rw [hS_q1] at q; exact q
          refine lv_iload_n hx hb dX5_nextBy_0 rfl (lv_at hl 1 rfl) ?_
          refine xt_i (As := [.int (xI (q1 : Int))]) (rest := []) ⟨hx, hb, hml, hown, hts⟩ hl.1 (c_X5_isCutter l (q1 : Int) (by omega)) k_X5_isCutter u_ml_RX5_170 rfl rfl (Nat.le_of_ble_eq_true rfl) ⟨Nat.le_of_ble_eq_true rfl, Nat.le_of_ble_eq_true rfl⟩ ⟨Nat.le_of_ble_eq_true rfl, Nat.le_of_ble_eq_true rfl⟩ dX5_nextBy_1 ?_
          refine x_top (q1 := True) ⟨fun _ => trivial, fun _ => by omega⟩ ?_
          refine x_ifb_eq (tgt := 21) hx hb dX5_nextBy_4 (by decide)  (fun c_4 => absurd trivial c_4) (fun c_4 => ?_)
          refine lv_iload_n hx hb dX5_nextBy_7 rfl (lv_at hl 2 rfl) ?_
          refine xt_i (As := [.int (xI z2)]) (rest := []) ⟨hx, hb, hml, hown, hts⟩ hl.1 (c_X5_isText l z2 (by omega)) k_X5_isText u_ml_RX5_87 rfl rfl (Nat.le_of_ble_eq_true rfl) ⟨Nat.le_of_ble_eq_true rfl, Nat.le_of_ble_eq_true rfl⟩ ⟨Nat.le_of_ble_eq_true rfl, Nat.le_of_ble_eq_true rfl⟩ dX5_nextBy_8 ?_
          refine x_top (q1 := False) ⟨fun h => absurd h (by omega), False.elim⟩ ?_
          refine x_ifb_eq (tgt := 21) hx hb dX5_nextBy_11 (by decide)  (fun c_11 => ?_) (fun c_11 => absurd c_11 id)
          refine x_sipush hx hb dX5_nextBy_21 (by decide +kernel) ?_
          exact xe_i hx hb hrt hlocks hP hS ((by unfold am_nextBy; simp only [Int.toNat_natCast]; rw [sp_if_t (by omega)]; exact ⟨rfl, _, hM, hR, ho⟩)) dX5_nextBy_24
    · rcases Classical.em (0 ≤ z2 ∧ z2 < 8) with hx_z2 | hx_z2
      · obtain ⟨t2, rfl⟩ : ∃ q : Nat, z2 = (q : Int) := ⟨z2.toNat, by omega⟩
        have h_t2 : t2 < 8 := by omega
        rcases hS_t2 : S.2.1 t2 with _ | r_t2
        · rcases Classical.em (0 ≤ z3 ∧ z3 < 8) with hx_z3 | hx_z3
          · obtain ⟨t3, rfl⟩ : ∃ q : Nat, z3 = (q : Int) := ⟨z3.toNat, by omega⟩
            have h_t3 : t3 < 8 := by omega
            have hc_q1 : MRc (some r_q1) (M.cutMany q1) (fun k => M.cut (200 * q1 + k)) (fun k => M.isCut (256 * q1 + k)) (M.cutGives q1) (M.cutAt q1) := by have q := hR.2.2.2 q1 h_q1; rw [hS_q1] at q; exact q
            obtain ⟨hz_q1, hcf_q1, hcs_q1, hcg_q1, hca_q1⟩ := hc_q1
            have hm_q1 := (hW.2.2.2.2 q1 r_q1 h_q1 hS_q1).1.1
            have hfb_q1 := (hW.2.2.2.2 q1 r_q1 h_q1 hS_q1).1.2
            have hp_q1 := (hW.2.2.2.2 q1 r_q1 h_q1 hS_q1).2
            have hz_t2 : M.toldMany t2 = -1 := by have q := hR.2.1 t2 h_t2; rw [hS_t2] at q; exact q
            refine lv_iload_n hx hb dX5_nextBy_0 rfl (lv_at hl 1 rfl) ?_
            refine xt_i (As := [.int (xI (q1 : Int))]) (rest := []) ⟨hx, hb, hml, hown, hts⟩ hl.1 (c_X5_isCutter l (q1 : Int) (by omega)) k_X5_isCutter u_ml_RX5_170 rfl rfl (Nat.le_of_ble_eq_true rfl) ⟨Nat.le_of_ble_eq_true rfl, Nat.le_of_ble_eq_true rfl⟩ ⟨Nat.le_of_ble_eq_true rfl, Nat.le_of_ble_eq_true rfl⟩ dX5_nextBy_1 ?_
            refine x_top (q1 := True) ⟨fun _ => trivial, fun _ => by omega⟩ ?_
            refine x_ifb_eq (tgt := 21) hx hb dX5_nextBy_4 (by decide)  (fun c_4 => absurd trivial c_4) (fun c_4 => ?_)
            refine lv_iload_n hx hb dX5_nextBy_7 rfl (lv_at hl 2 rfl) ?_
            refine xt_i (As := [.int (xI (t2 : Int))]) (rest := []) ⟨hx, hb, hml, hown, hts⟩ hl.1 (c_X5_isText l (t2 : Int) (by omega)) k_X5_isText u_ml_RX5_87 rfl rfl (Nat.le_of_ble_eq_true rfl) ⟨Nat.le_of_ble_eq_true rfl, Nat.le_of_ble_eq_true rfl⟩ ⟨Nat.le_of_ble_eq_true rfl, Nat.le_of_ble_eq_true rfl⟩ dX5_nextBy_8 ?_
            refine x_top (q1 := True) ⟨fun _ => trivial, fun _ => by omega⟩ ?_
            refine x_ifb_eq (tgt := 21) hx hb dX5_nextBy_11 (by decide)  (fun c_11 => absurd trivial c_11) (fun c_11 => ?_)
            refine lv_iload_n hx hb dX5_nextBy_14 rfl (lv_at hl 3 rfl) ?_
            refine xt_i (As := [.int (xI (t3 : Int))]) (rest := []) ⟨hx, hb, hml, hown, hts⟩ hl.1 (c_X5_isText l (t3 : Int) (by omega)) k_X5_isText u_ml_RX5_87 rfl rfl (Nat.le_of_ble_eq_true rfl) ⟨Nat.le_of_ble_eq_true rfl, Nat.le_of_ble_eq_true rfl⟩ ⟨Nat.le_of_ble_eq_true rfl, Nat.le_of_ble_eq_true rfl⟩ dX5_nextBy_15 ?_
            refine x_top (q1 := True) ⟨fun _ => trivial, fun _ => by omega⟩ ?_
            refine x_ifb_ne (tgt := 25) hx hb dX5_nextBy_18 (by decide)  (fun c_18 => ?_) (fun c_18 => absurd trivial c_18)
            refine lv_aload_n hx hb dX5_nextBy_25 rfl (lv_at hl 0 rfl) ?_
            refine x_get (T := TX5) (N := 17) hx hb hts uX5 hown hK hP (i := 53) (by omega) hM.1 rfl 12 (by decide) u_fl_RX5_40 rfl dX5_nextBy_26 ?_
            refine lv_iload_n hx hb dX5_nextBy_29 rfl (lv_at hl 1 rfl) ?_
            refine x_ild hx hb hK hP (i := 64) (by omega) hM.2.2.2.2.2.2.2.2.2.2.2.1 (x := (r_q1.1.1 : Int)) (by omega) (congrArg xI hz_q1) dX5_nextBy_30 ?_
            refine x_if_lt (tgt := 43) hx hb dX5_nextBy_31 (by decide) (by omega) (fun c_31 => absurd c_31 (by omega)) (fun c_31 => ?_)
            refine lv_aload_n hx hb dX5_nextBy_34 rfl (lv_at hl 0 rfl) ?_
            refine x_get (T := TX5) (N := 17) hx hb hts uX5 hown hK hP (i := 53) (by omega) hM.1 rfl 3 (by decide) u_fl_RX5_19 rfl dX5_nextBy_35 ?_
            refine lv_iload_n hx hb dX5_nextBy_38 rfl (lv_at hl 2 rfl) ?_
            refine x_ild hx hb hK hP (i := 57) (by omega) hM.2.2.2.2.1 (x := -1) (by omega) (congrArg xI hz_t2) dX5_nextBy_39 ?_
            refine x_if_ge (tgt := 47) hx hb dX5_nextBy_40 (by decide) (by omega) (fun c_40 => absurd c_40 (by omega)) (fun c_40 => ?_)
            refine x_sipush hx hb dX5_nextBy_43 (by decide +kernel) ?_
            exact xe_i hx hb hrt hlocks hP hS ((by unfold am_nextBy; simp only [Int.toNat_natCast]; simp only [sp_getc_s hS_q1]; rw [sp_if_f (by omega), sp_if_t (by simp [hS_q1, hS_t2])]; exact ⟨rfl, _, hM, hR, ho⟩)) dX5_nextBy_46
          · have hc_q1 : MRc (some r_q1) (M.cutMany q1) (fun k => M.cut (200 * q1 + k)) (fun k => M.isCut (256 * q1 + k)) (M.cutGives q1) (M.cutAt q1) := by have q := hR.2.2.2 q1 h_q1; rw [hS_q1] at q; exact q
            obtain ⟨hz_q1, hcf_q1, hcs_q1, hcg_q1, hca_q1⟩ := hc_q1
            have hm_q1 := (hW.2.2.2.2 q1 r_q1 h_q1 hS_q1).1.1
            have hfb_q1 := (hW.2.2.2.2 q1 r_q1 h_q1 hS_q1).1.2
            have hp_q1 := (hW.2.2.2.2 q1 r_q1 h_q1 hS_q1).2
            have hz_t2 : M.toldMany t2 = -1 := by have q := hR.2.1 t2 h_t2; rw [hS_t2] at q; exact q
            refine lv_iload_n hx hb dX5_nextBy_0 rfl (lv_at hl 1 rfl) ?_
            refine xt_i (As := [.int (xI (q1 : Int))]) (rest := []) ⟨hx, hb, hml, hown, hts⟩ hl.1 (c_X5_isCutter l (q1 : Int) (by omega)) k_X5_isCutter u_ml_RX5_170 rfl rfl (Nat.le_of_ble_eq_true rfl) ⟨Nat.le_of_ble_eq_true rfl, Nat.le_of_ble_eq_true rfl⟩ ⟨Nat.le_of_ble_eq_true rfl, Nat.le_of_ble_eq_true rfl⟩ dX5_nextBy_1 ?_
            refine x_top (q1 := True) ⟨fun _ => trivial, fun _ => by omega⟩ ?_
            refine x_ifb_eq (tgt := 21) hx hb dX5_nextBy_4 (by decide)  (fun c_4 => absurd trivial c_4) (fun c_4 => ?_)
            refine lv_iload_n hx hb dX5_nextBy_7 rfl (lv_at hl 2 rfl) ?_
            refine xt_i (As := [.int (xI (t2 : Int))]) (rest := []) ⟨hx, hb, hml, hown, hts⟩ hl.1 (c_X5_isText l (t2 : Int) (by omega)) k_X5_isText u_ml_RX5_87 rfl rfl (Nat.le_of_ble_eq_true rfl) ⟨Nat.le_of_ble_eq_true rfl, Nat.le_of_ble_eq_true rfl⟩ ⟨Nat.le_of_ble_eq_true rfl, Nat.le_of_ble_eq_true rfl⟩ dX5_nextBy_8 ?_
            refine x_top (q1 := True) ⟨fun _ => trivial, fun _ => by omega⟩ ?_
            refine x_ifb_eq (tgt := 21) hx hb dX5_nextBy_11 (by decide)  (fun c_11 => absurd trivial c_11) (fun c_11 => ?_)
            refine lv_iload_n hx hb dX5_nextBy_14 rfl (lv_at hl 3 rfl) ?_
            refine xt_i (As := [.int (xI z3)]) (rest := []) ⟨hx, hb, hml, hown, hts⟩ hl.1 (c_X5_isText l z3 (by omega)) k_X5_isText u_ml_RX5_87 rfl rfl (Nat.le_of_ble_eq_true rfl) ⟨Nat.le_of_ble_eq_true rfl, Nat.le_of_ble_eq_true rfl⟩ ⟨Nat.le_of_ble_eq_true rfl, Nat.le_of_ble_eq_true rfl⟩ dX5_nextBy_15 ?_
            refine x_top (q1 := False) ⟨fun h => absurd h (by omega), False.elim⟩ ?_
            refine x_ifb_ne (tgt := 25) hx hb dX5_nextBy_18 (by decide)  (fun c_18 => absurd c_18 id) (fun c_18 => ?_)
            refine x_sipush hx hb dX5_nextBy_21 (by decide +kernel) ?_
            exact xe_i hx hb hrt hlocks hP hS ((by unfold am_nextBy; simp only [Int.toNat_natCast]; simp only [sp_getc_s hS_q1]; rw [sp_if_t (by omega)]; exact ⟨rfl, _, hM, hR, ho⟩)) dX5_nextBy_24
        · rcases Classical.em (0 ≤ z3 ∧ z3 < 8) with hx_z3 | hx_z3
          · obtain ⟨t3, rfl⟩ : ∃ q : Nat, z3 = (q : Int) := ⟨z3.toNat, by omega⟩
            have h_t3 : t3 < 8 := by omega
            have hc_q1 : MRc (some r_q1) (M.cutMany q1) (fun k => M.cut (200 * q1 + k)) (fun k => M.isCut (256 * q1 + k)) (M.cutGives q1) (M.cutAt q1) := by have q := hR.2.2.2 q1 h_q1; rw [hS_q1] at q; exact q
            obtain ⟨hz_q1, hcf_q1, hcs_q1, hcg_q1, hca_q1⟩ := hc_q1
            have hm_q1 := (hW.2.2.2.2 q1 r_q1 h_q1 hS_q1).1.1
            have hfb_q1 := (hW.2.2.2.2 q1 r_q1 h_q1 hS_q1).1.2
            have hp_q1 := (hW.2.2.2.2 q1 r_q1 h_q1 hS_q1).2
            have hT_t2 : M.toldMany t2 = (r_t2.1 : Int) ∧ ∀ k : Nat, k < r_t2.1 → M.told (200 * t2 + k) = r_t2.2 k := by have q := hR.2.1 t2 h_t2; rw [hS_t2] at q; exact q
            have hz_t2 := hT_t2.1
            have hm_t2 := (hW.2.1 t2 r_t2 h_t2 hS_t2).1
            have hfb_t2 := (hW.2.1 t2 r_t2 h_t2 hS_t2).2
            refine lv_iload_n hx hb dX5_nextBy_0 rfl (lv_at hl 1 rfl) ?_
            refine xt_i (As := [.int (xI (q1 : Int))]) (rest := []) ⟨hx, hb, hml, hown, hts⟩ hl.1 (c_X5_isCutter l (q1 : Int) (by omega)) k_X5_isCutter u_ml_RX5_170 rfl rfl (Nat.le_of_ble_eq_true rfl) ⟨Nat.le_of_ble_eq_true rfl, Nat.le_of_ble_eq_true rfl⟩ ⟨Nat.le_of_ble_eq_true rfl, Nat.le_of_ble_eq_true rfl⟩ dX5_nextBy_1 ?_
            refine x_top (q1 := True) ⟨fun _ => trivial, fun _ => by omega⟩ ?_
            refine x_ifb_eq (tgt := 21) hx hb dX5_nextBy_4 (by decide)  (fun c_4 => absurd trivial c_4) (fun c_4 => ?_)
            refine lv_iload_n hx hb dX5_nextBy_7 rfl (lv_at hl 2 rfl) ?_
            refine xt_i (As := [.int (xI (t2 : Int))]) (rest := []) ⟨hx, hb, hml, hown, hts⟩ hl.1 (c_X5_isText l (t2 : Int) (by omega)) k_X5_isText u_ml_RX5_87 rfl rfl (Nat.le_of_ble_eq_true rfl) ⟨Nat.le_of_ble_eq_true rfl, Nat.le_of_ble_eq_true rfl⟩ ⟨Nat.le_of_ble_eq_true rfl, Nat.le_of_ble_eq_true rfl⟩ dX5_nextBy_8 ?_
            refine x_top (q1 := True) ⟨fun _ => trivial, fun _ => by omega⟩ ?_
            refine x_ifb_eq (tgt := 21) hx hb dX5_nextBy_11 (by decide)  (fun c_11 => absurd trivial c_11) (fun c_11 => ?_)
            refine lv_iload_n hx hb dX5_nextBy_14 rfl (lv_at hl 3 rfl) ?_
            refine xt_i (As := [.int (xI (t3 : Int))]) (rest := []) ⟨hx, hb, hml, hown, hts⟩ hl.1 (c_X5_isText l (t3 : Int) (by omega)) k_X5_isText u_ml_RX5_87 rfl rfl (Nat.le_of_ble_eq_true rfl) ⟨Nat.le_of_ble_eq_true rfl, Nat.le_of_ble_eq_true rfl⟩ ⟨Nat.le_of_ble_eq_true rfl, Nat.le_of_ble_eq_true rfl⟩ dX5_nextBy_15 ?_
            refine x_top (q1 := True) ⟨fun _ => trivial, fun _ => by omega⟩ ?_
            refine x_ifb_ne (tgt := 25) hx hb dX5_nextBy_18 (by decide)  (fun c_18 => ?_) (fun c_18 => absurd trivial c_18)
            refine lv_aload_n hx hb dX5_nextBy_25 rfl (lv_at hl 0 rfl) ?_
            refine x_get (T := TX5) (N := 17) hx hb hts uX5 hown hK hP (i := 53) (by omega) hM.1 rfl 12 (by decide) u_fl_RX5_40 rfl dX5_nextBy_26 ?_
            refine lv_iload_n hx hb dX5_nextBy_29 rfl (lv_at hl 1 rfl) ?_
            refine x_ild hx hb hK hP (i := 64) (by omega) hM.2.2.2.2.2.2.2.2.2.2.2.1 (x := (r_q1.1.1 : Int)) (by omega) (congrArg xI hz_q1) dX5_nextBy_30 ?_
            refine x_if_lt (tgt := 43) hx hb dX5_nextBy_31 (by decide) (by omega) (fun c_31 => absurd c_31 (by omega)) (fun c_31 => ?_)
            refine lv_aload_n hx hb dX5_nextBy_34 rfl (lv_at hl 0 rfl) ?_
            refine x_get (T := TX5) (N := 17) hx hb hts uX5 hown hK hP (i := 53) (by omega) hM.1 rfl 3 (by decide) u_fl_RX5_19 rfl dX5_nextBy_35 ?_
            refine lv_iload_n hx hb dX5_nextBy_38 rfl (lv_at hl 2 rfl) ?_
            refine x_ild hx hb hK hP (i := 57) (by omega) hM.2.2.2.2.1 (x := (r_t2.1 : Int)) (by omega) (congrArg xI hz_t2) dX5_nextBy_39 ?_
            refine x_if_ge (tgt := 47) hx hb dX5_nextBy_40 (by decide) (by omega) (fun c_40 => ?_) (fun c_40 => absurd c_40 (by omega))
            refine lv_aload_n hx hb dX5_nextBy_47 rfl (lv_at hl 0 rfl) ?_
            refine lv_iload_n hx hb dX5_nextBy_48 rfl (lv_at hl 1 rfl) ?_
            refine lv_iload_n hx hb dX5_nextBy_49 rfl (lv_at hl 2 rfl) ?_
            refine xm_v (i := 53) (As := [.int (xI (q1 : Int)), .int (xI (t2 : Int))]) (rest := []) ⟨hx, hb, hml, hown, hts⟩ hl.1 (c_X5_laySeparators l D cA n ad en _ hn hM q1 h_q1 t2 h_t2 (r := r_t2) hz_t2 hm_t2 hT_t2.2 hfb_t2) k_X5_laySeparators u_ml_RX5_173 hK hN hP (by omega) hM.1 rfl rfl rfl rfl (Nat.le_of_ble_eq_true rfl) ⟨Nat.le_of_ble_eq_true rfl, Nat.le_of_ble_eq_true rfl⟩ ⟨Nat.le_of_ble_eq_true rfl, Nat.le_of_ble_eq_true rfl⟩ dX5_nextBy_50 hD hS hA (fun en1 H locs hp1 hP hS => ?_)
            obtain ⟨G9, hG9, hH9, hM, ho2⟩ := hp1
            have hM : MW cA ad en1 (mO M.built M.builtMany M.told M.toldMany M.row M.rowMany M.figures M.partText M.partFrom M.partMany M.parts M.cut M.cutMany G9 M.cutGives M.cutAt M.h) := hM
            have ho := ho.tr ho2
            have hG9 : ∀ k : Nat, k < 256 → G9 (256 * q1 + k) = xd (sp_sep r_t2.2 r_t2.1 (k : Int)) := hG9
            have hH9 : ∀ j : Nat, j < 256 * q1 ∨ 256 * q1 + 256 ≤ j → G9 j = M.isCut j := hH9
            refine lv_aload_n hx hb dX5_nextBy_53 rfl (lv_at hl 0 rfl) ?_
            refine lv_iload_n hx hb dX5_nextBy_54 rfl (lv_at hl 1 rfl) ?_
            refine lv_iload_n hx hb dX5_nextBy_55 rfl (lv_at hl 3 rfl) ?_
            refine xm_i (i := 53) (As := [.int (xI (q1 : Int)), .int (xI (t3 : Int))]) (rest := []) ⟨hx, hb, hml, hown, hts⟩ hl.1 (c_X5_takes l D cA n ad en1 _ hn hM q1 h_q1 hcf_q1 hfb_q1 hG9 hm_q1 hz_q1 hcg_q1 r_q1.2.2.2 hca_q1 hp_q1 t3 h_t3) k_X5_takes u_ml_RX5_179 hK hN hP (by omega) (show en1 53 = .inr (5, [.ref (ad 54), .ref (ad 55), .ref (ad 56), .ref (ad 57), .ref (ad 58), .int (xI M.rowMany), .ref (ad 59), .ref (ad 60), .ref (ad 61), .ref (ad 62), .int (xI M.parts), .ref (ad 63), .ref (ad 64), .ref (ad 65), .ref (ad 66), .ref (ad 67), .long M.h]) from hM.1) rfl rfl rfl rfl (Nat.le_of_ble_eq_true rfl) ⟨Nat.le_of_ble_eq_true rfl, Nat.le_of_ble_eq_true rfl⟩ ⟨Nat.le_of_ble_eq_true rfl, Nat.le_of_ble_eq_true rfl⟩ dX5_nextBy_56 hD hS hA (fun r2 en2 H locs hp2 hP hS => ?_)
            rcases hp2 with ⟨h1e, hrv, hM, ho2⟩ | ⟨h1e, ts, te, F9, T9, hts9, hte9, hrv, hT9, hU9, hM, ho2⟩
            · subst hrv
              have hM : MW cA ad en2 (mO M.built M.builtMany M.told M.toldMany M.row M.rowMany M.figures M.partText M.partFrom M.partMany M.parts M.cut (sp_up M.cutMany q1 (-1)) G9 M.cutGives M.cutAt M.h) := hM
              have ho := ho.tr ho2
              exact xe_i hx hb hrt hlocks hP hS ((by unfold am_nextBy; simp only [Int.toNat_natCast]; simp only [sp_getc_s hS_q1, sp_get_s hS_t2]; rw [sp_if_f (by omega), sp_if_f (by simp [hS_q1, hS_t2])]; rw [sp_nxt_e (q := (r_q1.1, sp_sep r_t2.2 r_t2.1, r_q1.2.2)) h1e]; have q9 := hR.cutter hW h_q1 (o := none) (C' := M.cut) (G' := G9) (V' := M.cutGives) (A' := M.cutAt) (z := -1) (gv := M.cutGives q1) (pl := M.cutAt q1) rfl (fun j _ => rfl) hH9 ⟨rfl, fun _ _ => rfl⟩ ⟨rfl, fun _ _ => rfl⟩; exact ⟨rfl, _, hM, q9, ho⟩)) dX5_nextBy_59
            · subst hrv
              have hM : MW cA ad en2 (mO M.built M.builtMany T9 (sp_up M.toldMany t3 ((te : Int) - (ts : Int))) F9 ((te : Int) - (ts : Int)) M.figures M.partText M.partFrom M.partMany M.parts M.cut M.cutMany G9 M.cutGives (sp_up M.cutAt q1 (te : Int)) M.h) := hM
              have ho := ho.tr ho2
              have htsb := sp_ts_b (G := r_q1.2.2.1) (S := (sp_sep r_t2.2 r_t2.1)) (f := r_q1.1.2) (m := (r_q1.1.1 : Int)) (a := (r_q1.2.2.2 : Int)) (by omega)
              have hteb := sp_te_b (S := (sp_sep r_t2.2 r_t2.1)) (f := r_q1.1.2) (m := (r_q1.1.1 : Int)) (a := sp_ts r_q1.2.2.1 (sp_sep r_t2.2 r_t2.1) r_q1.1.2 (r_q1.1.1 : Int) (r_q1.2.2.2 : Int)) (by omega)
              exact xe_i hx hb hrt hlocks hP hS ((by unfold am_nextBy; simp only [Int.toNat_natCast]; simp only [sp_getc_s hS_q1, sp_get_s hS_t2]; rw [sp_if_f (by omega), sp_if_f (by simp [hS_q1, hS_t2])]; rw [sp_nxt_g (q := (r_q1.1, sp_sep r_t2.2 r_t2.1, r_q1.2.2)) h1e, show sp_ct (r_q1.1, sp_sep r_t2.2 r_t2.1, r_q1.2.2) = (ts : Int) from hts9.symm, show sp_ce (r_q1.1, sp_sep r_t2.2 r_t2.1, r_q1.2.2) = (te : Int) from hte9.symm]; rw [show Int.toNat (ts : Int) = ts from rfl, show Int.toNat (te : Int) = te from rfl]; have qc := hR.cutter hW h_q1 (o := some (r_q1.1, (sp_sep r_t2.2 r_t2.1), r_q1.2.2.1, te)) (C' := M.cut) (G' := G9) (V' := M.cutGives) (A' := sp_up M.cutAt q1 (te : Int)) (z := M.cutMany q1) (gv := M.cutGives q1) (pl := (te : Int)) ⟨hz_q1, hcf_q1, hG9, hcg_q1, rfl⟩ (fun j _ => rfl) hH9 ⟨rfl, fun _ _ => rfl⟩ ⟨sp_up_s _ _ _, fun j hj => sp_up_n _ _ hj⟩; rw [sp_up_id] at qc; have qt := hR.text hW h_t3 (o := some ((Int.toNat ((te : Int) - (ts : Int)), fun k => r_q1.1.2 (ts + k)) : xRow)) (T' := T9) (z := ((te : Int) - (ts : Int))) ⟨(show (te : Int) - (ts : Int) = ((Int.toNat ((te : Int) - (ts : Int)) : Nat) : Int) from by omega), fun k hk => hT9 k (by have hk : k < Int.toNat ((te : Int) - (ts : Int)) := hk; omega)⟩ hU9; exact ⟨rfl, _, hM, ⟨hR.1, qt.2.1, hR.2.2.1, qc.2.2.2⟩, ho⟩)) dX5_nextBy_59
          · have hc_q1 : MRc (some r_q1) (M.cutMany q1) (fun k => M.cut (200 * q1 + k)) (fun k => M.isCut (256 * q1 + k)) (M.cutGives q1) (M.cutAt q1) := by have q := hR.2.2.2 q1 h_q1; rw [hS_q1] at q; exact q
            obtain ⟨hz_q1, hcf_q1, hcs_q1, hcg_q1, hca_q1⟩ := hc_q1
            have hm_q1 := (hW.2.2.2.2 q1 r_q1 h_q1 hS_q1).1.1
            have hfb_q1 := (hW.2.2.2.2 q1 r_q1 h_q1 hS_q1).1.2
            have hp_q1 := (hW.2.2.2.2 q1 r_q1 h_q1 hS_q1).2
            have hT_t2 : M.toldMany t2 = (r_t2.1 : Int) ∧ ∀ k : Nat, k < r_t2.1 → M.told (200 * t2 + k) = r_t2.2 k := by have q := hR.2.1 t2 h_t2; rw [hS_t2] at q; exact q
            have hz_t2 := hT_t2.1
            have hm_t2 := (hW.2.1 t2 r_t2 h_t2 hS_t2).1
            have hfb_t2 := (hW.2.1 t2 r_t2 h_t2 hS_t2).2
            refine lv_iload_n hx hb dX5_nextBy_0 rfl (lv_at hl 1 rfl) ?_
            refine xt_i (As := [.int (xI (q1 : Int))]) (rest := []) ⟨hx, hb, hml, hown, hts⟩ hl.1 (c_X5_isCutter l (q1 : Int) (by omega)) k_X5_isCutter u_ml_RX5_170 rfl rfl (Nat.le_of_ble_eq_true rfl) ⟨Nat.le_of_ble_eq_true rfl, Nat.le_of_ble_eq_true rfl⟩ ⟨Nat.le_of_ble_eq_true rfl, Nat.le_of_ble_eq_true rfl⟩ dX5_nextBy_1 ?_
            refine x_top (q1 := True) ⟨fun _ => trivial, fun _ => by omega⟩ ?_
            refine x_ifb_eq (tgt := 21) hx hb dX5_nextBy_4 (by decide)  (fun c_4 => absurd trivial c_4) (fun c_4 => ?_)
            refine lv_iload_n hx hb dX5_nextBy_7 rfl (lv_at hl 2 rfl) ?_
            refine xt_i (As := [.int (xI (t2 : Int))]) (rest := []) ⟨hx, hb, hml, hown, hts⟩ hl.1 (c_X5_isText l (t2 : Int) (by omega)) k_X5_isText u_ml_RX5_87 rfl rfl (Nat.le_of_ble_eq_true rfl) ⟨Nat.le_of_ble_eq_true rfl, Nat.le_of_ble_eq_true rfl⟩ ⟨Nat.le_of_ble_eq_true rfl, Nat.le_of_ble_eq_true rfl⟩ dX5_nextBy_8 ?_
            refine x_top (q1 := True) ⟨fun _ => trivial, fun _ => by omega⟩ ?_
            refine x_ifb_eq (tgt := 21) hx hb dX5_nextBy_11 (by decide)  (fun c_11 => absurd trivial c_11) (fun c_11 => ?_)
            refine lv_iload_n hx hb dX5_nextBy_14 rfl (lv_at hl 3 rfl) ?_
            refine xt_i (As := [.int (xI z3)]) (rest := []) ⟨hx, hb, hml, hown, hts⟩ hl.1 (c_X5_isText l z3 (by omega)) k_X5_isText u_ml_RX5_87 rfl rfl (Nat.le_of_ble_eq_true rfl) ⟨Nat.le_of_ble_eq_true rfl, Nat.le_of_ble_eq_true rfl⟩ ⟨Nat.le_of_ble_eq_true rfl, Nat.le_of_ble_eq_true rfl⟩ dX5_nextBy_15 ?_
            refine x_top (q1 := False) ⟨fun h => absurd h (by omega), False.elim⟩ ?_
            refine x_ifb_ne (tgt := 25) hx hb dX5_nextBy_18 (by decide)  (fun c_18 => absurd c_18 id) (fun c_18 => ?_)
            refine x_sipush hx hb dX5_nextBy_21 (by decide +kernel) ?_
            exact xe_i hx hb hrt hlocks hP hS ((by unfold am_nextBy; simp only [Int.toNat_natCast]; simp only [sp_getc_s hS_q1, sp_get_s hS_t2]; rw [sp_if_t (by omega)]; exact ⟨rfl, _, hM, hR, ho⟩)) dX5_nextBy_24
      · rcases Classical.em (0 ≤ z3 ∧ z3 < 8) with hx_z3 | hx_z3
        · obtain ⟨t3, rfl⟩ : ∃ q : Nat, z3 = (q : Int) := ⟨z3.toNat, by omega⟩
          have h_t3 : t3 < 8 := by omega
          have hc_q1 : MRc (some r_q1) (M.cutMany q1) (fun k => M.cut (200 * q1 + k)) (fun k => M.isCut (256 * q1 + k)) (M.cutGives q1) (M.cutAt q1) := by have q := hR.2.2.2 q1 h_q1; rw [hS_q1] at q; exact q
          obtain ⟨hz_q1, hcf_q1, hcs_q1, hcg_q1, hca_q1⟩ := hc_q1
          have hm_q1 := (hW.2.2.2.2 q1 r_q1 h_q1 hS_q1).1.1
          have hfb_q1 := (hW.2.2.2.2 q1 r_q1 h_q1 hS_q1).1.2
          have hp_q1 := (hW.2.2.2.2 q1 r_q1 h_q1 hS_q1).2
          refine lv_iload_n hx hb dX5_nextBy_0 rfl (lv_at hl 1 rfl) ?_
          refine xt_i (As := [.int (xI (q1 : Int))]) (rest := []) ⟨hx, hb, hml, hown, hts⟩ hl.1 (c_X5_isCutter l (q1 : Int) (by omega)) k_X5_isCutter u_ml_RX5_170 rfl rfl (Nat.le_of_ble_eq_true rfl) ⟨Nat.le_of_ble_eq_true rfl, Nat.le_of_ble_eq_true rfl⟩ ⟨Nat.le_of_ble_eq_true rfl, Nat.le_of_ble_eq_true rfl⟩ dX5_nextBy_1 ?_
          refine x_top (q1 := True) ⟨fun _ => trivial, fun _ => by omega⟩ ?_
          refine x_ifb_eq (tgt := 21) hx hb dX5_nextBy_4 (by decide)  (fun c_4 => absurd trivial c_4) (fun c_4 => ?_)
          refine lv_iload_n hx hb dX5_nextBy_7 rfl (lv_at hl 2 rfl) ?_
          refine xt_i (As := [.int (xI z2)]) (rest := []) ⟨hx, hb, hml, hown, hts⟩ hl.1 (c_X5_isText l z2 (by omega)) k_X5_isText u_ml_RX5_87 rfl rfl (Nat.le_of_ble_eq_true rfl) ⟨Nat.le_of_ble_eq_true rfl, Nat.le_of_ble_eq_true rfl⟩ ⟨Nat.le_of_ble_eq_true rfl, Nat.le_of_ble_eq_true rfl⟩ dX5_nextBy_8 ?_
          refine x_top (q1 := False) ⟨fun h => absurd h (by omega), False.elim⟩ ?_
          refine x_ifb_eq (tgt := 21) hx hb dX5_nextBy_11 (by decide)  (fun c_11 => ?_) (fun c_11 => absurd c_11 id)
          refine x_sipush hx hb dX5_nextBy_21 (by decide +kernel) ?_
          exact xe_i hx hb hrt hlocks hP hS ((by unfold am_nextBy; simp only [Int.toNat_natCast]; simp only [sp_getc_s hS_q1]; rw [sp_if_t (by omega)]; exact ⟨rfl, _, hM, hR, ho⟩)) dX5_nextBy_24
        · have hc_q1 : MRc (some r_q1) (M.cutMany q1) (fun k => M.cut (200 * q1 + k)) (fun k => M.isCut (256 * q1 + k)) (M.cutGives q1) (M.cutAt q1) := by have q := hR.2.2.2 q1 h_q1; rw [hS_q1] at q; exact q
          obtain ⟨hz_q1, hcf_q1, hcs_q1, hcg_q1, hca_q1⟩ := hc_q1
          have hm_q1 := (hW.2.2.2.2 q1 r_q1 h_q1 hS_q1).1.1
          have hfb_q1 := (hW.2.2.2.2 q1 r_q1 h_q1 hS_q1).1.2
          have hp_q1 := (hW.2.2.2.2 q1 r_q1 h_q1 hS_q1).2
          refine lv_iload_n hx hb dX5_nextBy_0 rfl (lv_at hl 1 rfl) ?_
          refine xt_i (As := [.int (xI (q1 : Int))]) (rest := []) ⟨hx, hb, hml, hown, hts⟩ hl.1 (c_X5_isCutter l (q1 : Int) (by omega)) k_X5_isCutter u_ml_RX5_170 rfl rfl (Nat.le_of_ble_eq_true rfl) ⟨Nat.le_of_ble_eq_true rfl, Nat.le_of_ble_eq_true rfl⟩ ⟨Nat.le_of_ble_eq_true rfl, Nat.le_of_ble_eq_true rfl⟩ dX5_nextBy_1 ?_
          refine x_top (q1 := True) ⟨fun _ => trivial, fun _ => by omega⟩ ?_
          refine x_ifb_eq (tgt := 21) hx hb dX5_nextBy_4 (by decide)  (fun c_4 => absurd trivial c_4) (fun c_4 => ?_)
          refine lv_iload_n hx hb dX5_nextBy_7 rfl (lv_at hl 2 rfl) ?_
          refine xt_i (As := [.int (xI z2)]) (rest := []) ⟨hx, hb, hml, hown, hts⟩ hl.1 (c_X5_isText l z2 (by omega)) k_X5_isText u_ml_RX5_87 rfl rfl (Nat.le_of_ble_eq_true rfl) ⟨Nat.le_of_ble_eq_true rfl, Nat.le_of_ble_eq_true rfl⟩ ⟨Nat.le_of_ble_eq_true rfl, Nat.le_of_ble_eq_true rfl⟩ dX5_nextBy_8 ?_
          refine x_top (q1 := False) ⟨fun h => absurd h (by omega), False.elim⟩ ?_
          refine x_ifb_eq (tgt := 21) hx hb dX5_nextBy_11 (by decide)  (fun c_11 => ?_) (fun c_11 => absurd c_11 id)
          refine x_sipush hx hb dX5_nextBy_21 (by decide +kernel) ?_
          exact xe_i hx hb hrt hlocks hP hS ((by unfold am_nextBy; simp only [Int.toNat_natCast]; simp only [sp_getc_s hS_q1]; rw [sp_if_t (by omega)]; exact ⟨rfl, _, hM, hR, ho⟩)) dX5_nextBy_24
  · rcases Classical.em (0 ≤ z2 ∧ z2 < 8) with hx_z2 | hx_z2
    · obtain ⟨t2, rfl⟩ : ∃ q : Nat, z2 = (q : Int) := ⟨z2.toNat, by omega⟩
      have h_t2 : t2 < 8 := by omega
      rcases hS_t2 : S.2.1 t2 with _ | r_t2
      · rcases Classical.em (0 ≤ z3 ∧ z3 < 8) with hx_z3 | hx_z3
        · obtain ⟨t3, rfl⟩ : ∃ q : Nat, z3 = (q : Int) := ⟨z3.toNat, by omega⟩
          have h_t3 : t3 < 8 := by omega
          have hz_t2 : M.toldMany t2 = -1 := by have q := hR.2.1 t2 h_t2; rw [hS_t2] at q; exact q
          refine lv_iload_n hx hb dX5_nextBy_0 rfl (lv_at hl 1 rfl) ?_
          refine xt_i (As := [.int (xI z1)]) (rest := []) ⟨hx, hb, hml, hown, hts⟩ hl.1 (c_X5_isCutter l z1 (by omega)) k_X5_isCutter u_ml_RX5_170 rfl rfl (Nat.le_of_ble_eq_true rfl) ⟨Nat.le_of_ble_eq_true rfl, Nat.le_of_ble_eq_true rfl⟩ ⟨Nat.le_of_ble_eq_true rfl, Nat.le_of_ble_eq_true rfl⟩ dX5_nextBy_1 ?_
          refine x_top (q1 := False) ⟨fun h => absurd h (by omega), False.elim⟩ ?_
          refine x_ifb_eq (tgt := 21) hx hb dX5_nextBy_4 (by decide)  (fun c_4 => ?_) (fun c_4 => absurd c_4 id)
          refine x_sipush hx hb dX5_nextBy_21 (by decide +kernel) ?_
          exact xe_i hx hb hrt hlocks hP hS ((by unfold am_nextBy; simp only [Int.toNat_natCast]; rw [sp_if_t (by omega)]; exact ⟨rfl, _, hM, hR, ho⟩)) dX5_nextBy_24
        · have hz_t2 : M.toldMany t2 = -1 := by have q := hR.2.1 t2 h_t2; rw [hS_t2] at q; exact q
          refine lv_iload_n hx hb dX5_nextBy_0 rfl (lv_at hl 1 rfl) ?_
          refine xt_i (As := [.int (xI z1)]) (rest := []) ⟨hx, hb, hml, hown, hts⟩ hl.1 (c_X5_isCutter l z1 (by omega)) k_X5_isCutter u_ml_RX5_170 rfl rfl (Nat.le_of_ble_eq_true rfl) ⟨Nat.le_of_ble_eq_true rfl, Nat.le_of_ble_eq_true rfl⟩ ⟨Nat.le_of_ble_eq_true rfl, Nat.le_of_ble_eq_true rfl⟩ dX5_nextBy_1 ?_
          refine x_top (q1 := False) ⟨fun h => absurd h (by omega), False.elim⟩ ?_
          refine x_ifb_eq (tgt := 21) hx hb dX5_nextBy_4 (by decide)  (fun c_4 => ?_) (fun c_4 => absurd c_4 id)
          refine x_sipush hx hb dX5_nextBy_21 (by decide +kernel) ?_
          exact xe_i hx hb hrt hlocks hP hS ((by unfold am_nextBy; simp only [Int.toNat_natCast]; rw [sp_if_t (by omega)]; exact ⟨rfl, _, hM, hR, ho⟩)) dX5_nextBy_24
      · rcases Classical.em (0 ≤ z3 ∧ z3 < 8) with hx_z3 | hx_z3
        · obtain ⟨t3, rfl⟩ : ∃ q : Nat, z3 = (q : Int) := ⟨z3.toNat, by omega⟩
          have h_t3 : t3 < 8 := by omega
          have hT_t2 : M.toldMany t2 = (r_t2.1 : Int) ∧ ∀ k : Nat, k < r_t2.1 → M.told (200 * t2 + k) = r_t2.2 k := by have q := hR.2.1 t2 h_t2; rw [hS_t2] at q; exact q
          have hz_t2 := hT_t2.1
          have hm_t2 := (hW.2.1 t2 r_t2 h_t2 hS_t2).1
          have hfb_t2 := (hW.2.1 t2 r_t2 h_t2 hS_t2).2
          refine lv_iload_n hx hb dX5_nextBy_0 rfl (lv_at hl 1 rfl) ?_
          refine xt_i (As := [.int (xI z1)]) (rest := []) ⟨hx, hb, hml, hown, hts⟩ hl.1 (c_X5_isCutter l z1 (by omega)) k_X5_isCutter u_ml_RX5_170 rfl rfl (Nat.le_of_ble_eq_true rfl) ⟨Nat.le_of_ble_eq_true rfl, Nat.le_of_ble_eq_true rfl⟩ ⟨Nat.le_of_ble_eq_true rfl, Nat.le_of_ble_eq_true rfl⟩ dX5_nextBy_1 ?_
          refine x_top (q1 := False) ⟨fun h => absurd h (by omega), False.elim⟩ ?_
          refine x_ifb_eq (tgt := 21) hx hb dX5_nextBy_4 (by decide)  (fun c_4 => ?_) (fun c_4 => absurd c_4 id)
          refine x_sipush hx hb dX5_nextBy_21 (by decide +kernel) ?_
          exact xe_i hx hb hrt hlocks hP hS ((by unfold am_nextBy; simp only [Int.toNat_natCast]; simp only [sp_get_s hS_t2]; rw [sp_if_t (by omega)]; exact ⟨rfl, _, hM, hR, ho⟩)) dX5_nextBy_24
        · have hT_t2 : M.toldMany t2 = (r_t2.1 : Int) ∧ ∀ k : Nat, k < r_t2.1 → M.told (200 * t2 + k) = r_t2.2 k := by have q := hR.2.1 t2 h_t2; rw [hS_t2] at q; exact q
          have hz_t2 := hT_t2.1
          have hm_t2 := (hW.2.1 t2 r_t2 h_t2 hS_t2).1
          have hfb_t2 := (hW.2.1 t2 r_t2 h_t2 hS_t2).2
          refine lv_iload_n hx hb dX5_nextBy_0 rfl (lv_at hl 1 rfl) ?_
          refine xt_i (As := [.int (xI z1)]) (rest := []) ⟨hx, hb, hml, hown, hts⟩ hl.1 (c_X5_isCutter l z1 (by omega)) k_X5_isCutter u_ml_RX5_170 rfl rfl (Nat.le_of_ble_eq_true rfl) ⟨Nat.le_of_ble_eq_true rfl, Nat.le_of_ble_eq_true rfl⟩ ⟨Nat.le_of_ble_eq_true rfl, Nat.le_of_ble_eq_true rfl⟩ dX5_nextBy_1 ?_
          refine x_top (q1 := False) ⟨fun h => absurd h (by omega), False.elim⟩ ?_
          refine x_ifb_eq (tgt := 21) hx hb dX5_nextBy_4 (by decide)  (fun c_4 => ?_) (fun c_4 => absurd c_4 id)
          refine x_sipush hx hb dX5_nextBy_21 (by decide +kernel) ?_
          exact xe_i hx hb hrt hlocks hP hS ((by unfold am_nextBy; simp only [Int.toNat_natCast]; simp only [sp_get_s hS_t2]; rw [sp_if_t (by omega)]; exact ⟨rfl, _, hM, hR, ho⟩)) dX5_nextBy_24
    · rcases Classical.em (0 ≤ z3 ∧ z3 < 8) with hx_z3 | hx_z3
      · obtain ⟨t3, rfl⟩ : ∃ q : Nat, z3 = (q : Int) := ⟨z3.toNat, by omega⟩
        have h_t3 : t3 < 8 := by omega
        refine lv_iload_n hx hb dX5_nextBy_0 rfl (lv_at hl 1 rfl) ?_
        refine xt_i (As := [.int (xI z1)]) (rest := []) ⟨hx, hb, hml, hown, hts⟩ hl.1 (c_X5_isCutter l z1 (by omega)) k_X5_isCutter u_ml_RX5_170 rfl rfl (Nat.le_of_ble_eq_true rfl) ⟨Nat.le_of_ble_eq_true rfl, Nat.le_of_ble_eq_true rfl⟩ ⟨Nat.le_of_ble_eq_true rfl, Nat.le_of_ble_eq_true rfl⟩ dX5_nextBy_1 ?_
        refine x_top (q1 := False) ⟨fun h => absurd h (by omega), False.elim⟩ ?_
        refine x_ifb_eq (tgt := 21) hx hb dX5_nextBy_4 (by decide)  (fun c_4 => ?_) (fun c_4 => absurd c_4 id)
        refine x_sipush hx hb dX5_nextBy_21 (by decide +kernel) ?_
        exact xe_i hx hb hrt hlocks hP hS ((by unfold am_nextBy; simp only [Int.toNat_natCast]; rw [sp_if_t (by omega)]; exact ⟨rfl, _, hM, hR, ho⟩)) dX5_nextBy_24
      · refine lv_iload_n hx hb dX5_nextBy_0 rfl (lv_at hl 1 rfl) ?_
        refine xt_i (As := [.int (xI z1)]) (rest := []) ⟨hx, hb, hml, hown, hts⟩ hl.1 (c_X5_isCutter l z1 (by omega)) k_X5_isCutter u_ml_RX5_170 rfl rfl (Nat.le_of_ble_eq_true rfl) ⟨Nat.le_of_ble_eq_true rfl, Nat.le_of_ble_eq_true rfl⟩ ⟨Nat.le_of_ble_eq_true rfl, Nat.le_of_ble_eq_true rfl⟩ dX5_nextBy_1 ?_
        refine x_top (q1 := False) ⟨fun h => absurd h (by omega), False.elim⟩ ?_
        refine x_ifb_eq (tgt := 21) hx hb dX5_nextBy_4 (by decide)  (fun c_4 => ?_) (fun c_4 => absurd c_4 id)
        refine x_sipush hx hb dX5_nextBy_21 (by decide +kernel) ?_
        exact xe_i hx hb hrt hlocks hP hS ((by unfold am_nextBy; rw [sp_if_t (by omega)]; exact ⟨rfl, _, hM, hR, ho⟩)) dX5_nextBy_24

set_option maxRecDepth 20000 in
theorem c_X5_cutter (l : Launch) (D : va_G) (cA : Nat → ClassId) (n : Nat) (ad : Nat → Nat) (en : Nat → va_E) (sz : Nat) (hn : 68 ≤ n) {M : MO} (hM : MW cA ad en M) {S : xSt} (hW : WF S) (hR : MR S M) (z1 : Int) (hz1 : -2147483648 ≤ z1 ∧ z1 ≤ 2147483647) (z2 : Int) (hz2 : -2147483648 ≤ z2 ∧ z2 ≤ 2147483647) (z3 : Int) (hz3 : -2147483648 ≤ z3 ∧ z3 ≤ 2147483647) (z4 : Prop) : Met l yX5_cutter (Cond.code yX5_cutter cX5_cutter 6 (some .int) :: xU) (xrm 3 68) (va_Pc [.ref (ad 53), .int (xI z1), .int (xI z2), .int (xI z3), .int (xb z4)] (xM D cA n ad en sz)) (va_Qi (fun r u => r = xI (am_cutter S z1 z2 z3 z4).1 ∧ ∃ M' : MO, MW cA ad u M' ∧ MR (am_cutter S z1 z2 z3 z4).2 M' ∧ xO 53 68 en u) (xE D n ad) (xA n ad sz)) 0 0 (xA n ad sz) := by
  refine xmet (by decide) (Nat.le_of_ble_eq_true rfl) (fun p e s mm args below meth c ls hx hb hrt hml hown hts hlocks hname hB hl => ?_)
  obtain ⟨⟨hP, hK, hN⟩, hsz, hDt⟩ := hB
  have hD : xD (xA n ad sz) n ad := xD_self hDt sz
  have hA : ∀ q : Nat, s.heap.size ≤ q → xA n ad sz q := fun q h => Or.inr (by rw [← hsz]; exact h)
  have hS : va_S (xA n ad sz) s.heap s.heap [] := va_S.rf
  have hown : s.vm.findClass RX5 = some mm.cls := hown
  have hl : lv_has ls 6 [(0, .ref (ad 53)), (1, .int (xI z1)), (2, .int (xI z2)), (3, .int (xI z3)), (4, .int (xb z4))] := hl
  have ho : xO 53 68 en en := xO.rf
  rcases Classical.em (0 ≤ z1 ∧ z1 < 2) with hx_z1 | hx_z1
  · obtain ⟨q1, rfl⟩ : ∃ q : Nat, z1 = (q : Int) := ⟨z1.toNat, by omega⟩
    have h_q1 : q1 < 2 := by omega
    rcases Classical.em (0 ≤ z2 ∧ z2 < 8) with hx_z2 | hx_z2
    · obtain ⟨t2, rfl⟩ : ∃ q : Nat, z2 = (q : Int) := ⟨z2.toNat, by omega⟩
      have h_t2 : t2 < 8 := by omega
      rcases hS_t2 : S.2.1 t2 with _ | r_t2
      · rcases Classical.em (0 ≤ z3 ∧ z3 < 8) with hx_z3 | hx_z3
        · obtain ⟨t3, rfl⟩ : ∃ q : Nat, z3 = (q : Int) := ⟨z3.toNat, by omega⟩
          have h_t3 : t3 < 8 := by omega
          rcases hS_t3 : S.2.1 t3 with _ | r_t3
          · have hz_t2 : M.toldMany t2 = -1 := by have q := hR.2.1 t2 h_t2; rw [hS_t2] at q; exact q
            have hz_t3 : M.toldMany t3 = -1 := by have q := hR.2.1 t3 h_t3; rw [hS_t3] at q; exact q
            refine lv_iload_n hx hb dX5_cutter_0 rfl (lv_at hl 1 rfl) ?_
            refine xt_i (As := [.int (xI (q1 : Int))]) (rest := []) ⟨hx, hb, hml, hown, hts⟩ hl.1 (c_X5_isCutter l (q1 : Int) (by omega)) k_X5_isCutter u_ml_RX5_170 rfl rfl (Nat.le_of_ble_eq_true rfl) ⟨Nat.le_of_ble_eq_true rfl, Nat.le_of_ble_eq_true rfl⟩ ⟨Nat.le_of_ble_eq_true rfl, Nat.le_of_ble_eq_true rfl⟩ dX5_cutter_1 ?_
            refine x_top (q1 := True) ⟨fun _ => trivial, fun _ => by omega⟩ ?_
            refine x_ifb_eq (tgt := 21) hx hb dX5_cutter_4 (by decide)  (fun c_4 => absurd trivial c_4) (fun c_4 => ?_)
            refine lv_iload_n hx hb dX5_cutter_7 rfl (lv_at hl 2 rfl) ?_
            refine xt_i (As := [.int (xI (t2 : Int))]) (rest := []) ⟨hx, hb, hml, hown, hts⟩ hl.1 (c_X5_isText l (t2 : Int) (by omega)) k_X5_isText u_ml_RX5_87 rfl rfl (Nat.le_of_ble_eq_true rfl) ⟨Nat.le_of_ble_eq_true rfl, Nat.le_of_ble_eq_true rfl⟩ ⟨Nat.le_of_ble_eq_true rfl, Nat.le_of_ble_eq_true rfl⟩ dX5_cutter_8 ?_
            refine x_top (q1 := True) ⟨fun _ => trivial, fun _ => by omega⟩ ?_
            refine x_ifb_eq (tgt := 21) hx hb dX5_cutter_11 (by decide)  (fun c_11 => absurd trivial c_11) (fun c_11 => ?_)
            refine lv_iload_n hx hb dX5_cutter_14 rfl (lv_at hl 3 rfl) ?_
            refine xt_i (As := [.int (xI (t3 : Int))]) (rest := []) ⟨hx, hb, hml, hown, hts⟩ hl.1 (c_X5_isText l (t3 : Int) (by omega)) k_X5_isText u_ml_RX5_87 rfl rfl (Nat.le_of_ble_eq_true rfl) ⟨Nat.le_of_ble_eq_true rfl, Nat.le_of_ble_eq_true rfl⟩ ⟨Nat.le_of_ble_eq_true rfl, Nat.le_of_ble_eq_true rfl⟩ dX5_cutter_15 ?_
            refine x_top (q1 := True) ⟨fun _ => trivial, fun _ => by omega⟩ ?_
            refine x_ifb_ne (tgt := 25) hx hb dX5_cutter_18 (by decide)  (fun c_18 => ?_) (fun c_18 => absurd trivial c_18)
            refine lv_aload_n hx hb dX5_cutter_25 rfl (lv_at hl 0 rfl) ?_
            refine x_get (T := TX5) (N := 17) hx hb hts uX5 hown hK hP (i := 53) (by omega) hM.1 rfl 3 (by decide) u_fl_RX5_19 rfl dX5_cutter_26 ?_
            refine lv_iload_n hx hb dX5_cutter_29 rfl (lv_at hl 2 rfl) ?_
            refine x_ild hx hb hK hP (i := 57) (by omega) hM.2.2.2.2.1 (x := -1) (by omega) (congrArg xI hz_t2) dX5_cutter_30 ?_
            refine x_if_lt (tgt := 43) hx hb dX5_cutter_31 (by decide) (by omega) (fun c_31 => ?_) (fun c_31 => absurd c_31 (by omega))
            refine x_sipush hx hb dX5_cutter_43 (by decide +kernel) ?_
            exact xe_i hx hb hrt hlocks hP hS ((by unfold am_cutter; simp only [Int.toNat_natCast]; rw [sp_if_f (by omega), sp_if_t (by simp [hS_t2, hS_t3])]; exact ⟨rfl, _, hM, hR, ho⟩)) dX5_cutter_46
          · have hz_t2 : M.toldMany t2 = -1 := by have q := hR.2.1 t2 h_t2; rw [hS_t2] at q; exact q
            have hT_t3 : M.toldMany t3 = (r_t3.1 : Int) ∧ ∀ k : Nat, k < r_t3.1 → M.told (200 * t3 + k) = r_t3.2 k := by have q := hR.2.1 t3 h_t3; rw [hS_t3] at q; exact q
            have hz_t3 := hT_t3.1
            have hm_t3 := (hW.2.1 t3 r_t3 h_t3 hS_t3).1
            have hfb_t3 := (hW.2.1 t3 r_t3 h_t3 hS_t3).2
            refine lv_iload_n hx hb dX5_cutter_0 rfl (lv_at hl 1 rfl) ?_
            refine xt_i (As := [.int (xI (q1 : Int))]) (rest := []) ⟨hx, hb, hml, hown, hts⟩ hl.1 (c_X5_isCutter l (q1 : Int) (by omega)) k_X5_isCutter u_ml_RX5_170 rfl rfl (Nat.le_of_ble_eq_true rfl) ⟨Nat.le_of_ble_eq_true rfl, Nat.le_of_ble_eq_true rfl⟩ ⟨Nat.le_of_ble_eq_true rfl, Nat.le_of_ble_eq_true rfl⟩ dX5_cutter_1 ?_
            refine x_top (q1 := True) ⟨fun _ => trivial, fun _ => by omega⟩ ?_
            refine x_ifb_eq (tgt := 21) hx hb dX5_cutter_4 (by decide)  (fun c_4 => absurd trivial c_4) (fun c_4 => ?_)
            refine lv_iload_n hx hb dX5_cutter_7 rfl (lv_at hl 2 rfl) ?_
            refine xt_i (As := [.int (xI (t2 : Int))]) (rest := []) ⟨hx, hb, hml, hown, hts⟩ hl.1 (c_X5_isText l (t2 : Int) (by omega)) k_X5_isText u_ml_RX5_87 rfl rfl (Nat.le_of_ble_eq_true rfl) ⟨Nat.le_of_ble_eq_true rfl, Nat.le_of_ble_eq_true rfl⟩ ⟨Nat.le_of_ble_eq_true rfl, Nat.le_of_ble_eq_true rfl⟩ dX5_cutter_8 ?_
            refine x_top (q1 := True) ⟨fun _ => trivial, fun _ => by omega⟩ ?_
            refine x_ifb_eq (tgt := 21) hx hb dX5_cutter_11 (by decide)  (fun c_11 => absurd trivial c_11) (fun c_11 => ?_)
            refine lv_iload_n hx hb dX5_cutter_14 rfl (lv_at hl 3 rfl) ?_
            refine xt_i (As := [.int (xI (t3 : Int))]) (rest := []) ⟨hx, hb, hml, hown, hts⟩ hl.1 (c_X5_isText l (t3 : Int) (by omega)) k_X5_isText u_ml_RX5_87 rfl rfl (Nat.le_of_ble_eq_true rfl) ⟨Nat.le_of_ble_eq_true rfl, Nat.le_of_ble_eq_true rfl⟩ ⟨Nat.le_of_ble_eq_true rfl, Nat.le_of_ble_eq_true rfl⟩ dX5_cutter_15 ?_
            refine x_top (q1 := True) ⟨fun _ => trivial, fun _ => by omega⟩ ?_
            refine x_ifb_ne (tgt := 25) hx hb dX5_cutter_18 (by decide)  (fun c_18 => ?_) (fun c_18 => absurd trivial c_18)
            refine lv_aload_n hx hb dX5_cutter_25 rfl (lv_at hl 0 rfl) ?_
            refine x_get (T := TX5) (N := 17) hx hb hts uX5 hown hK hP (i := 53) (by omega) hM.1 rfl 3 (by decide) u_fl_RX5_19 rfl dX5_cutter_26 ?_
            refine lv_iload_n hx hb dX5_cutter_29 rfl (lv_at hl 2 rfl) ?_
            refine x_ild hx hb hK hP (i := 57) (by omega) hM.2.2.2.2.1 (x := -1) (by omega) (congrArg xI hz_t2) dX5_cutter_30 ?_
            refine x_if_lt (tgt := 43) hx hb dX5_cutter_31 (by decide) (by omega) (fun c_31 => ?_) (fun c_31 => absurd c_31 (by omega))
            refine x_sipush hx hb dX5_cutter_43 (by decide +kernel) ?_
            exact xe_i hx hb hrt hlocks hP hS ((by unfold am_cutter; simp only [Int.toNat_natCast]; simp only [sp_get_s hS_t3]; rw [sp_if_f (by omega), sp_if_t (by simp [hS_t2, hS_t3])]; exact ⟨rfl, _, hM, hR, ho⟩)) dX5_cutter_46
        · have hz_t2 : M.toldMany t2 = -1 := by have q := hR.2.1 t2 h_t2; rw [hS_t2] at q; exact q
          refine lv_iload_n hx hb dX5_cutter_0 rfl (lv_at hl 1 rfl) ?_
          refine xt_i (As := [.int (xI (q1 : Int))]) (rest := []) ⟨hx, hb, hml, hown, hts⟩ hl.1 (c_X5_isCutter l (q1 : Int) (by omega)) k_X5_isCutter u_ml_RX5_170 rfl rfl (Nat.le_of_ble_eq_true rfl) ⟨Nat.le_of_ble_eq_true rfl, Nat.le_of_ble_eq_true rfl⟩ ⟨Nat.le_of_ble_eq_true rfl, Nat.le_of_ble_eq_true rfl⟩ dX5_cutter_1 ?_
          refine x_top (q1 := True) ⟨fun _ => trivial, fun _ => by omega⟩ ?_
          refine x_ifb_eq (tgt := 21) hx hb dX5_cutter_4 (by decide)  (fun c_4 => absurd trivial c_4) (fun c_4 => ?_)
          refine lv_iload_n hx hb dX5_cutter_7 rfl (lv_at hl 2 rfl) ?_
          refine xt_i (As := [.int (xI (t2 : Int))]) (rest := []) ⟨hx, hb, hml, hown, hts⟩ hl.1 (c_X5_isText l (t2 : Int) (by omega)) k_X5_isText u_ml_RX5_87 rfl rfl (Nat.le_of_ble_eq_true rfl) ⟨Nat.le_of_ble_eq_true rfl, Nat.le_of_ble_eq_true rfl⟩ ⟨Nat.le_of_ble_eq_true rfl, Nat.le_of_ble_eq_true rfl⟩ dX5_cutter_8 ?_
          refine x_top (q1 := True) ⟨fun _ => trivial, fun _ => by omega⟩ ?_
          refine x_ifb_eq (tgt := 21) hx hb dX5_cutter_11 (by decide)  (fun c_11 => absurd trivial c_11) (fun c_11 => ?_)
          refine lv_iload_n hx hb dX5_cutter_14 rfl (lv_at hl 3 rfl) ?_
          refine xt_i (As := [.int (xI z3)]) (rest := []) ⟨hx, hb, hml, hown, hts⟩ hl.1 (c_X5_isText l z3 (by omega)) k_X5_isText u_ml_RX5_87 rfl rfl (Nat.le_of_ble_eq_true rfl) ⟨Nat.le_of_ble_eq_true rfl, Nat.le_of_ble_eq_true rfl⟩ ⟨Nat.le_of_ble_eq_true rfl, Nat.le_of_ble_eq_true rfl⟩ dX5_cutter_15 ?_
          refine x_top (q1 := False) ⟨fun h => absurd h (by omega), False.elim⟩ ?_
          refine x_ifb_ne (tgt := 25) hx hb dX5_cutter_18 (by decide)  (fun c_18 => absurd c_18 id) (fun c_18 => ?_)
          refine x_sipush hx hb dX5_cutter_21 (by decide +kernel) ?_
          exact xe_i hx hb hrt hlocks hP hS ((by unfold am_cutter; simp only [Int.toNat_natCast]; rw [sp_if_t (by omega)]; exact ⟨rfl, _, hM, hR, ho⟩)) dX5_cutter_24
      · rcases Classical.em (0 ≤ z3 ∧ z3 < 8) with hx_z3 | hx_z3
        · obtain ⟨t3, rfl⟩ : ∃ q : Nat, z3 = (q : Int) := ⟨z3.toNat, by omega⟩
          have h_t3 : t3 < 8 := by omega
          rcases hS_t3 : S.2.1 t3 with _ | r_t3
          · have hT_t2 : M.toldMany t2 = (r_t2.1 : Int) ∧ ∀ k : Nat, k < r_t2.1 → M.told (200 * t2 + k) = r_t2.2 k := by have q := hR.2.1 t2 h_t2; rw [hS_t2] at q; exact q
            have hz_t2 := hT_t2.1
            have hm_t2 := (hW.2.1 t2 r_t2 h_t2 hS_t2).1
            have hfb_t2 := (hW.2.1 t2 r_t2 h_t2 hS_t2).2
            have hz_t3 : M.toldMany t3 = -1 := by have q := hR.2.1 t3 h_t3; rw [hS_t3] at q; exact q
            refine lv_iload_n hx hb dX5_cutter_0 rfl (lv_at hl 1 rfl) ?_
            refine xt_i (As := [.int (xI (q1 : Int))]) (rest := []) ⟨hx, hb, hml, hown, hts⟩ hl.1 (c_X5_isCutter l (q1 : Int) (by omega)) k_X5_isCutter u_ml_RX5_170 rfl rfl (Nat.le_of_ble_eq_true rfl) ⟨Nat.le_of_ble_eq_true rfl, Nat.le_of_ble_eq_true rfl⟩ ⟨Nat.le_of_ble_eq_true rfl, Nat.le_of_ble_eq_true rfl⟩ dX5_cutter_1 ?_
            refine x_top (q1 := True) ⟨fun _ => trivial, fun _ => by omega⟩ ?_
            refine x_ifb_eq (tgt := 21) hx hb dX5_cutter_4 (by decide)  (fun c_4 => absurd trivial c_4) (fun c_4 => ?_)
            refine lv_iload_n hx hb dX5_cutter_7 rfl (lv_at hl 2 rfl) ?_
            refine xt_i (As := [.int (xI (t2 : Int))]) (rest := []) ⟨hx, hb, hml, hown, hts⟩ hl.1 (c_X5_isText l (t2 : Int) (by omega)) k_X5_isText u_ml_RX5_87 rfl rfl (Nat.le_of_ble_eq_true rfl) ⟨Nat.le_of_ble_eq_true rfl, Nat.le_of_ble_eq_true rfl⟩ ⟨Nat.le_of_ble_eq_true rfl, Nat.le_of_ble_eq_true rfl⟩ dX5_cutter_8 ?_
            refine x_top (q1 := True) ⟨fun _ => trivial, fun _ => by omega⟩ ?_
            refine x_ifb_eq (tgt := 21) hx hb dX5_cutter_11 (by decide)  (fun c_11 => absurd trivial c_11) (fun c_11 => ?_)
            refine lv_iload_n hx hb dX5_cutter_14 rfl (lv_at hl 3 rfl) ?_
            refine xt_i (As := [.int (xI (t3 : Int))]) (rest := []) ⟨hx, hb, hml, hown, hts⟩ hl.1 (c_X5_isText l (t3 : Int) (by omega)) k_X5_isText u_ml_RX5_87 rfl rfl (Nat.le_of_ble_eq_true rfl) ⟨Nat.le_of_ble_eq_true rfl, Nat.le_of_ble_eq_true rfl⟩ ⟨Nat.le_of_ble_eq_true rfl, Nat.le_of_ble_eq_true rfl⟩ dX5_cutter_15 ?_
            refine x_top (q1 := True) ⟨fun _ => trivial, fun _ => by omega⟩ ?_
            refine x_ifb_ne (tgt := 25) hx hb dX5_cutter_18 (by decide)  (fun c_18 => ?_) (fun c_18 => absurd trivial c_18)
            refine lv_aload_n hx hb dX5_cutter_25 rfl (lv_at hl 0 rfl) ?_
            refine x_get (T := TX5) (N := 17) hx hb hts uX5 hown hK hP (i := 53) (by omega) hM.1 rfl 3 (by decide) u_fl_RX5_19 rfl dX5_cutter_26 ?_
            refine lv_iload_n hx hb dX5_cutter_29 rfl (lv_at hl 2 rfl) ?_
            refine x_ild hx hb hK hP (i := 57) (by omega) hM.2.2.2.2.1 (x := (r_t2.1 : Int)) (by omega) (congrArg xI hz_t2) dX5_cutter_30 ?_
            refine x_if_lt (tgt := 43) hx hb dX5_cutter_31 (by decide) (by omega) (fun c_31 => absurd c_31 (by omega)) (fun c_31 => ?_)
            refine lv_aload_n hx hb dX5_cutter_34 rfl (lv_at hl 0 rfl) ?_
            refine x_get (T := TX5) (N := 17) hx hb hts uX5 hown hK hP (i := 53) (by omega) hM.1 rfl 3 (by decide) u_fl_RX5_19 rfl dX5_cutter_35 ?_
            refine lv_iload_n hx hb dX5_cutter_38 rfl (lv_at hl 3 rfl) ?_
            refine x_ild hx hb hK hP (i := 57) (by omega) hM.2.2.2.2.1 (x := -1) (by omega) (congrArg xI hz_t3) dX5_cutter_39 ?_
            refine x_if_ge (tgt := 47) hx hb dX5_cutter_40 (by decide) (by omega) (fun c_40 => absurd c_40 (by omega)) (fun c_40 => ?_)
            refine x_sipush hx hb dX5_cutter_43 (by decide +kernel) ?_
            exact xe_i hx hb hrt hlocks hP hS ((by unfold am_cutter; simp only [Int.toNat_natCast]; simp only [sp_get_s hS_t2]; rw [sp_if_f (by omega), sp_if_t (by simp [hS_t2, hS_t3])]; exact ⟨rfl, _, hM, hR, ho⟩)) dX5_cutter_46
          · have hT_t2 : M.toldMany t2 = (r_t2.1 : Int) ∧ ∀ k : Nat, k < r_t2.1 → M.told (200 * t2 + k) = r_t2.2 k := by have q := hR.2.1 t2 h_t2; rw [hS_t2] at q; exact q
            have hz_t2 := hT_t2.1
            have hm_t2 := (hW.2.1 t2 r_t2 h_t2 hS_t2).1
            have hfb_t2 := (hW.2.1 t2 r_t2 h_t2 hS_t2).2
            have hT_t3 : M.toldMany t3 = (r_t3.1 : Int) ∧ ∀ k : Nat, k < r_t3.1 → M.told (200 * t3 + k) = r_t3.2 k := by have q := hR.2.1 t3 h_t3; rw [hS_t3] at q; exact q
            have hz_t3 := hT_t3.1
            have hm_t3 := (hW.2.1 t3 r_t3 h_t3 hS_t3).1
            have hfb_t3 := (hW.2.1 t3 r_t3 h_t3 hS_t3).2
            refine lv_iload_n hx hb dX5_cutter_0 rfl (lv_at hl 1 rfl) ?_
            refine xt_i (As := [.int (xI (q1 : Int))]) (rest := []) ⟨hx, hb, hml, hown, hts⟩ hl.1 (c_X5_isCutter l (q1 : Int) (by omega)) k_X5_isCutter u_ml_RX5_170 rfl rfl (Nat.le_of_ble_eq_true rfl) ⟨Nat.le_of_ble_eq_true rfl, Nat.le_of_ble_eq_true rfl⟩ ⟨Nat.le_of_ble_eq_true rfl, Nat.le_of_ble_eq_true rfl⟩ dX5_cutter_1 ?_
            refine x_top (q1 := True) ⟨fun _ => trivial, fun _ => by omega⟩ ?_
            refine x_ifb_eq (tgt := 21) hx hb dX5_cutter_4 (by decide)  (fun c_4 => absurd trivial c_4) (fun c_4 => ?_)
            refine lv_iload_n hx hb dX5_cutter_7 rfl (lv_at hl 2 rfl) ?_
            refine xt_i (As := [.int (xI (t2 : Int))]) (rest := []) ⟨hx, hb, hml, hown, hts⟩ hl.1 (c_X5_isText l (t2 : Int) (by omega)) k_X5_isText u_ml_RX5_87 rfl rfl (Nat.le_of_ble_eq_true rfl) ⟨Nat.le_of_ble_eq_true rfl, Nat.le_of_ble_eq_true rfl⟩ ⟨Nat.le_of_ble_eq_true rfl, Nat.le_of_ble_eq_true rfl⟩ dX5_cutter_8 ?_
            refine x_top (q1 := True) ⟨fun _ => trivial, fun _ => by omega⟩ ?_
            refine x_ifb_eq (tgt := 21) hx hb dX5_cutter_11 (by decide)  (fun c_11 => absurd trivial c_11) (fun c_11 => ?_)
            refine lv_iload_n hx hb dX5_cutter_14 rfl (lv_at hl 3 rfl) ?_
            refine xt_i (As := [.int (xI (t3 : Int))]) (rest := []) ⟨hx, hb, hml, hown, hts⟩ hl.1 (c_X5_isText l (t3 : Int) (by omega)) k_X5_isText u_ml_RX5_87 rfl rfl (Nat.le_of_ble_eq_true rfl) ⟨Nat.le_of_ble_eq_true rfl, Nat.le_of_ble_eq_true rfl⟩ ⟨Nat.le_of_ble_eq_true rfl, Nat.le_of_ble_eq_true rfl⟩ dX5_cutter_15 ?_
            refine x_top (q1 := True) ⟨fun _ => trivial, fun _ => by omega⟩ ?_
            refine x_ifb_ne (tgt := 25) hx hb dX5_cutter_18 (by decide)  (fun c_18 => ?_) (fun c_18 => absurd trivial c_18)
            refine lv_aload_n hx hb dX5_cutter_25 rfl (lv_at hl 0 rfl) ?_
            refine x_get (T := TX5) (N := 17) hx hb hts uX5 hown hK hP (i := 53) (by omega) hM.1 rfl 3 (by decide) u_fl_RX5_19 rfl dX5_cutter_26 ?_
            refine lv_iload_n hx hb dX5_cutter_29 rfl (lv_at hl 2 rfl) ?_
            refine x_ild hx hb hK hP (i := 57) (by omega) hM.2.2.2.2.1 (x := (r_t2.1 : Int)) (by omega) (congrArg xI hz_t2) dX5_cutter_30 ?_
            refine x_if_lt (tgt := 43) hx hb dX5_cutter_31 (by decide) (by omega) (fun c_31 => absurd c_31 (by omega)) (fun c_31 => ?_)
            refine lv_aload_n hx hb dX5_cutter_34 rfl (lv_at hl 0 rfl) ?_
            refine x_get (T := TX5) (N := 17) hx hb hts uX5 hown hK hP (i := 53) (by omega) hM.1 rfl 3 (by decide) u_fl_RX5_19 rfl dX5_cutter_35 ?_
            refine lv_iload_n hx hb dX5_cutter_38 rfl (lv_at hl 3 rfl) ?_
            refine x_ild hx hb hK hP (i := 57) (by omega) hM.2.2.2.2.1 (x := (r_t3.1 : Int)) (by omega) (congrArg xI hz_t3) dX5_cutter_39 ?_
            refine x_if_ge (tgt := 47) hx hb dX5_cutter_40 (by decide) (by omega) (fun c_40 => ?_) (fun c_40 => absurd c_40 (by omega))
            refine lv_aload_n hx hb dX5_cutter_47 rfl (lv_at hl 0 rfl) ?_
            refine x_get (T := TX5) (N := 17) hx hb hts uX5 hown hK hP (i := 53) (by omega) hM.1 rfl 12 (by decide) u_fl_RX5_40 rfl dX5_cutter_48 ?_
            refine lv_iload_n hx hb dX5_cutter_51 rfl (lv_at hl 1 rfl) ?_
            refine lv_aload_n hx hb dX5_cutter_52 rfl (lv_at hl 0 rfl) ?_
            refine x_get (T := TX5) (N := 17) hx hb hts uX5 hown hK hP (i := 53) (by omega) hM.1 rfl 3 (by decide) u_fl_RX5_19 rfl dX5_cutter_53 ?_
            refine lv_iload_n hx hb dX5_cutter_56 rfl (lv_at hl 2 rfl) ?_
            refine x_ild hx hb hK hP (i := 57) (by omega) hM.2.2.2.2.1 (x := (r_t2.1 : Int)) (by omega) (congrArg xI hz_t2) dX5_cutter_57 ?_
            refine x_ist hx hb hK hP hD hS (i := 64) (by omega) hM.2.2.2.2.2.2.2.2.2.2.2.1 (by omega) dX5_cutter_58 (fun H locs hP hS => ?_)
            obtain ⟨en1, he1⟩ : ∃ z, z = va_up en 64 (.inl (cA 0, 2, .inl (upd (fun k => xI (M.cutMany k)) q1 (xI (r_t2.1 : Int))))) := ⟨_, rfl⟩
            have hP : va_P D vwCl (xw n ad en1) H := by rw [he1]; exact hP
            have hM : MW cA ad en1 (mO M.built M.builtMany M.told M.toldMany M.row M.rowMany M.figures M.partText M.partFrom M.partMany M.parts M.cut (sp_up M.cutMany q1 (r_t2.1 : Int)) M.isCut M.cutGives M.cutAt M.h) := by rw [he1]; exact hM.u_cutMany q1 (r_t2.1 : Int)
            have ho : xO 53 68 en en1 := by rw [he1]; exact ho.up (by omega) (by omega)
            refine x_iconst hx hb dX5_cutter_59 ?_
            refine lv_istore (lv' := [(5, .int (xI 0)), (0, .ref (ad 53)), (1, .int (xI (q1 : Int))), (2, .int (xI (t2 : Int))), (3, .int (xI (t3 : Int))), (4, .int (xb z4))]) hx hb dX5_cutter_60 hl (by decide) rfl (fun ls hl => ?_)
            have L62 : ∀ (nn : Nat) (K : Nat) (C : Nat → Int) (ew62 : Nat → va_E) (H : Heap) (locs : List Loc), (K ≤ r_t2.1) → ((∀ k : Nat, k < K → C (200 * q1 + k) = r_t2.2 k) ∧ ∀ j : Nat, j < 200 * q1 ∨ 200 * q1 + 200 ≤ j → C j = M.cut j) → (r_t2.1 - K) < nn → (MW cA ad ew62 (mO M.built M.builtMany M.told M.toldMany M.row M.rowMany M.figures M.partText M.partFrom M.partMany M.parts C (sp_up M.cutMany q1 (r_t2.1 : Int)) M.isCut M.cutGives M.cutAt M.h)) → (xO 53 68 en ew62) → va_P D vwCl (xw n ad ew62) H → va_S (xA n ad sz) s.heap H locs → ∀ ls : Array Slot, lv_has ls 6 [(0, .ref (ad 53)), (1, .int (xI (q1 : Int))), (2, .int (xI (t2 : Int))), (3, .int (xI (t3 : Int))), (4, .int (xb z4)), (5, .int (xI (K : Int)))] → W p l e (xrm 3 68) s mm args below meth c H locs 0 0 (MQ below (va_Qi (fun r u => r = xI (am_cutter S (q1 : Int) (t2 : Int) (t3 : Int) z4).1 ∧ ∃ M' : MO, MW cA ad u M' ∧ MR (am_cutter S (q1 : Int) (t2 : Int) (t3 : Int) z4).2 M' ∧ xO 53 68 en u) (xE D n ad) (xA n ad sz)) args s 0 0 (xA n ad sz)) (F0 mm 62 ls []) := by
              intro nn
              induction nn with
              | zero =>
                intro K C ew62 H locs hk8 hF hmm hM ho hP hS ls hl
                exact absurd hmm (Nat.not_lt_zero _)
              | succ nn ih =>
                intro K C ew62 H locs hk8 hF hmm hM ho hP hS ls hl
                refine lv_iload hx hb dX5_cutter_62 (lv_at hl 5 rfl) ?_
                refine lv_aload_n hx hb dX5_cutter_64 rfl (lv_at hl 0 rfl) ?_
                refine x_get (T := TX5) (N := 17) hx hb hts uX5 hown hK hP (i := 53) (by omega) (show ew62 53 = .inr (5, [.ref (ad 54), .ref (ad 55), .ref (ad 56), .ref (ad 57), .ref (ad 58), .int (xI M.rowMany), .ref (ad 59), .ref (ad 60), .ref (ad 61), .ref (ad 62), .int (xI M.parts), .ref (ad 63), .ref (ad 64), .ref (ad 65), .ref (ad 66), .ref (ad 67), .long M.h]) from hM.1) rfl 3 (by decide) u_fl_RX5_19 rfl dX5_cutter_65 ?_
                refine lv_iload_n hx hb dX5_cutter_68 rfl (lv_at hl 2 rfl) ?_
                refine x_ild hx hb hK hP (i := 57) (by omega) hM.2.2.2.2.1 (x := (r_t2.1 : Int)) (by omega) (congrArg xI hz_t2) dX5_cutter_69 ?_
                refine x_icmp_ge (tgt := 105) hx hb dX5_cutter_70 (by decide) (by omega) (fun c_70 => ?_) (fun c_70 => ?_)
                · refine lv_aload_n hx hb dX5_cutter_105 rfl (lv_at hl 0 rfl) ?_
                  refine lv_iload_n hx hb dX5_cutter_106 rfl (lv_at hl 1 rfl) ?_
                  refine lv_iload_n hx hb dX5_cutter_107 rfl (lv_at hl 3 rfl) ?_
                  refine xm_v (i := 53) (As := [.int (xI (q1 : Int)), .int (xI (t3 : Int))]) (rest := []) ⟨hx, hb, hml, hown, hts⟩ hl.1 (c_X5_laySeparators l D cA n ad ew62 _ hn hM q1 h_q1 t3 h_t3 (r := r_t3) hz_t3 hm_t3 hT_t3.2 hfb_t3) k_X5_laySeparators u_ml_RX5_173 hK hN hP (by omega) (show ew62 53 = .inr (5, [.ref (ad 54), .ref (ad 55), .ref (ad 56), .ref (ad 57), .ref (ad 58), .int (xI M.rowMany), .ref (ad 59), .ref (ad 60), .ref (ad 61), .ref (ad 62), .int (xI M.parts), .ref (ad 63), .ref (ad 64), .ref (ad 65), .ref (ad 66), .ref (ad 67), .long M.h]) from hM.1) rfl rfl rfl rfl (Nat.le_of_ble_eq_true rfl) ⟨Nat.le_of_ble_eq_true rfl, Nat.le_of_ble_eq_true rfl⟩ ⟨Nat.le_of_ble_eq_true rfl, Nat.le_of_ble_eq_true rfl⟩ dX5_cutter_108 hD hS hA (fun en2 H locs hp2 hP hS => ?_)
                  obtain ⟨G9, hG9, hH9, hM, ho2⟩ := hp2
                  have hM : MW cA ad en2 (mO M.built M.builtMany M.told M.toldMany M.row M.rowMany M.figures M.partText M.partFrom M.partMany M.parts C (sp_up M.cutMany q1 (r_t2.1 : Int)) G9 M.cutGives M.cutAt M.h) := hM
                  have ho := ho.tr ho2
                  have hG9 : ∀ k : Nat, k < 256 → G9 (256 * q1 + k) = xd (sp_sep r_t3.2 r_t3.1 (k : Int)) := hG9
                  have hH9 : ∀ j : Nat, j < 256 * q1 ∨ 256 * q1 + 256 ≤ j → G9 j = M.isCut j := hH9
                  refine lv_aload_n hx hb dX5_cutter_111 rfl (lv_at hl 0 rfl) ?_
                  refine x_get (T := TX5) (N := 17) hx hb hts uX5 hown hK hP (i := 53) (by omega) (show en2 53 = .inr (5, [.ref (ad 54), .ref (ad 55), .ref (ad 56), .ref (ad 57), .ref (ad 58), .int (xI M.rowMany), .ref (ad 59), .ref (ad 60), .ref (ad 61), .ref (ad 62), .int (xI M.parts), .ref (ad 63), .ref (ad 64), .ref (ad 65), .ref (ad 66), .ref (ad 67), .long M.h]) from hM.1) rfl 14 (by decide) u_fl_RX5_46 rfl dX5_cutter_112 ?_
                  refine lv_iload_n hx hb dX5_cutter_115 rfl (lv_at hl 1 rfl) ?_
                  refine lv_iload hx hb dX5_cutter_116 (lv_at hl 4 rfl) ?_
                  refine x_ifb_eq (tgt := 125) hx hb dX5_cutter_118 (by decide)  (fun c_118 => ?_) (fun c_118 => ?_)
                  · refine x_iconst hx hb dX5_cutter_125 ?_
                    refine x_ist hx hb hK hP hD hS (i := 66) (by omega) hM.2.2.2.2.2.2.2.2.2.2.2.2.2.1 (by omega) dX5_cutter_126 (fun H locs hP hS => ?_)
                    obtain ⟨en3, he3⟩ : ∃ z, z = va_up en2 66 (.inl (cA 0, 2, .inl (upd (fun k => xI (M.cutGives k)) q1 (xI 0)))) := ⟨_, rfl⟩
                    have hP : va_P D vwCl (xw n ad en3) H := by rw [he3]; exact hP
                    have hM : MW cA ad en3 (mO M.built M.builtMany M.told M.toldMany M.row M.rowMany M.figures M.partText M.partFrom M.partMany M.parts C (sp_up M.cutMany q1 (r_t2.1 : Int)) G9 (sp_up M.cutGives q1 0) M.cutAt M.h) := by rw [he3]; exact hM.u_cutGives q1 0
                    have ho : xO 53 68 en en3 := by rw [he3]; exact ho.up (by omega) (by omega)
                    refine lv_aload_n hx hb dX5_cutter_127 rfl (lv_at hl 0 rfl) ?_
                    refine x_get (T := TX5) (N := 17) hx hb hts uX5 hown hK hP (i := 53) (by omega) (show en3 53 = .inr (5, [.ref (ad 54), .ref (ad 55), .ref (ad 56), .ref (ad 57), .ref (ad 58), .int (xI M.rowMany), .ref (ad 59), .ref (ad 60), .ref (ad 61), .ref (ad 62), .int (xI M.parts), .ref (ad 63), .ref (ad 64), .ref (ad 65), .ref (ad 66), .ref (ad 67), .long M.h]) from hM.1) rfl 15 (by decide) u_fl_RX5_49 rfl dX5_cutter_128 ?_
                    refine lv_iload_n hx hb dX5_cutter_131 rfl (lv_at hl 1 rfl) ?_
                    refine x_iconst hx hb dX5_cutter_132 ?_
                    refine x_ist hx hb hK hP hD hS (i := 67) (by omega) hM.2.2.2.2.2.2.2.2.2.2.2.2.2.2 (by omega) dX5_cutter_133 (fun H locs hP hS => ?_)
                    obtain ⟨en4, he4⟩ : ∃ z, z = va_up en3 67 (.inl (cA 0, 2, .inl (upd (fun k => xI (M.cutAt k)) q1 (xI 0)))) := ⟨_, rfl⟩
                    have hP : va_P D vwCl (xw n ad en4) H := by rw [he4]; exact hP
                    have hM : MW cA ad en4 (mO M.built M.builtMany M.told M.toldMany M.row M.rowMany M.figures M.partText M.partFrom M.partMany M.parts C (sp_up M.cutMany q1 (r_t2.1 : Int)) G9 (sp_up M.cutGives q1 0) (sp_up M.cutAt q1 0) M.h) := by rw [he4]; exact hM.u_cutAt q1 0
                    have ho : xO 53 68 en en4 := by rw [he4]; exact ho.up (by omega) (by omega)
                    refine lv_aload_n hx hb dX5_cutter_134 rfl (lv_at hl 0 rfl) ?_
                    refine lv_iload_n hx hb dX5_cutter_135 rfl (lv_at hl 1 rfl) ?_
                    have hF3 : ∀ k : Nat, k < r_t2.1 → C (200 * q1 + k) = r_t2.2 k := fun k hk => hF.1 k (by omega)
                    refine xv_i (i := 53) (As := [.int (xI (q1 : Int))]) (rest := []) ⟨hx, hb, hml, hown, hts⟩ hl.1 (c_X5_leftOf l D cA n ad en4 hn hM q1 h_q1 (m9 := r_t2.1) (f := r_t2.2) (S9 := sp_sep r_t3.2 r_t3.1) hF3 hfb_t2 hG9 hm_t2 (G9 := z4) (sp_up_s _ _ _) ((sp_up_s M.cutGives q1 _).trans (xd_f c_118).symm) 0 (sp_up_s _ _ _) (Nat.zero_le _)) k_X5_leftOf u_ml_RX5_176 hK hN hP (by omega) (show en4 53 = .inr (5, [.ref (ad 54), .ref (ad 55), .ref (ad 56), .ref (ad 57), .ref (ad 58), .int (xI M.rowMany), .ref (ad 59), .ref (ad 60), .ref (ad 61), .ref (ad 62), .int (xI M.parts), .ref (ad 63), .ref (ad 64), .ref (ad 65), .ref (ad 66), .ref (ad 67), .long M.h]) from hM.1) rfl rfl rfl rfl (Nat.le_of_ble_eq_true rfl) ⟨Nat.le_of_ble_eq_true rfl, Nat.le_of_ble_eq_true rfl⟩ ⟨Nat.le_of_ble_eq_true rfl, Nat.le_of_ble_eq_true rfl⟩ dX5_cutter_136 ?_
                    exact xe_i hx hb hrt hlocks hP hS ((by unfold am_cutter; simp only [Int.toNat_natCast]; simp only [sp_get_s hS_t2, sp_get_s hS_t3]; rw [sp_if_f (by omega), sp_if_f (by simp [hS_t2, hS_t3])]; have q9 := hR.cutter hW h_q1 (o := some (r_t2, sp_sep r_t3.2 r_t3.1, z4, 0)) (C' := C) (G' := G9) (V' := sp_up M.cutGives q1 0) (A' := sp_up M.cutAt q1 0) (z := (r_t2.1 : Int)) (gv := 0) (pl := 0) ⟨rfl, hF3, hG9, (xd_f c_118).symm, rfl⟩ hF.2 hH9 ⟨sp_up_s _ _ _, fun j hj => sp_up_n _ _ hj⟩ ⟨sp_up_s _ _ _, fun j hj => sp_up_n _ _ hj⟩; exact ⟨rfl, _, hM, q9, ho⟩)) dX5_cutter_139
                  · refine x_iconst hx hb dX5_cutter_121 ?_
                    refine lv_goto (tgt := 126) hx hb dX5_cutter_122 (by decide) ?_
                    refine x_ist hx hb hK hP hD hS (i := 66) (by omega) hM.2.2.2.2.2.2.2.2.2.2.2.2.2.1 (by omega) dX5_cutter_126 (fun H locs hP hS => ?_)
                    obtain ⟨en5, he5⟩ : ∃ z, z = va_up en2 66 (.inl (cA 0, 2, .inl (upd (fun k => xI (M.cutGives k)) q1 (xI 1)))) := ⟨_, rfl⟩
                    have hP : va_P D vwCl (xw n ad en5) H := by rw [he5]; exact hP
                    have hM : MW cA ad en5 (mO M.built M.builtMany M.told M.toldMany M.row M.rowMany M.figures M.partText M.partFrom M.partMany M.parts C (sp_up M.cutMany q1 (r_t2.1 : Int)) G9 (sp_up M.cutGives q1 1) M.cutAt M.h) := by rw [he5]; exact hM.u_cutGives q1 1
                    have ho : xO 53 68 en en5 := by rw [he5]; exact ho.up (by omega) (by omega)
                    refine lv_aload_n hx hb dX5_cutter_127 rfl (lv_at hl 0 rfl) ?_
                    refine x_get (T := TX5) (N := 17) hx hb hts uX5 hown hK hP (i := 53) (by omega) (show en5 53 = .inr (5, [.ref (ad 54), .ref (ad 55), .ref (ad 56), .ref (ad 57), .ref (ad 58), .int (xI M.rowMany), .ref (ad 59), .ref (ad 60), .ref (ad 61), .ref (ad 62), .int (xI M.parts), .ref (ad 63), .ref (ad 64), .ref (ad 65), .ref (ad 66), .ref (ad 67), .long M.h]) from hM.1) rfl 15 (by decide) u_fl_RX5_49 rfl dX5_cutter_128 ?_
                    refine lv_iload_n hx hb dX5_cutter_131 rfl (lv_at hl 1 rfl) ?_
                    refine x_iconst hx hb dX5_cutter_132 ?_
                    refine x_ist hx hb hK hP hD hS (i := 67) (by omega) hM.2.2.2.2.2.2.2.2.2.2.2.2.2.2 (by omega) dX5_cutter_133 (fun H locs hP hS => ?_)
                    obtain ⟨en6, he6⟩ : ∃ z, z = va_up en5 67 (.inl (cA 0, 2, .inl (upd (fun k => xI (M.cutAt k)) q1 (xI 0)))) := ⟨_, rfl⟩
                    have hP : va_P D vwCl (xw n ad en6) H := by rw [he6]; exact hP
                    have hM : MW cA ad en6 (mO M.built M.builtMany M.told M.toldMany M.row M.rowMany M.figures M.partText M.partFrom M.partMany M.parts C (sp_up M.cutMany q1 (r_t2.1 : Int)) G9 (sp_up M.cutGives q1 1) (sp_up M.cutAt q1 0) M.h) := by rw [he6]; exact hM.u_cutAt q1 0
                    have ho : xO 53 68 en en6 := by rw [he6]; exact ho.up (by omega) (by omega)
                    refine lv_aload_n hx hb dX5_cutter_134 rfl (lv_at hl 0 rfl) ?_
                    refine lv_iload_n hx hb dX5_cutter_135 rfl (lv_at hl 1 rfl) ?_
                    have hF3 : ∀ k : Nat, k < r_t2.1 → C (200 * q1 + k) = r_t2.2 k := fun k hk => hF.1 k (by omega)
                    refine xv_i (i := 53) (As := [.int (xI (q1 : Int))]) (rest := []) ⟨hx, hb, hml, hown, hts⟩ hl.1 (c_X5_leftOf l D cA n ad en6 hn hM q1 h_q1 (m9 := r_t2.1) (f := r_t2.2) (S9 := sp_sep r_t3.2 r_t3.1) hF3 hfb_t2 hG9 hm_t2 (G9 := z4) (sp_up_s _ _ _) ((sp_up_s M.cutGives q1 _).trans (xd_t c_118).symm) 0 (sp_up_s _ _ _) (Nat.zero_le _)) k_X5_leftOf u_ml_RX5_176 hK hN hP (by omega) (show en6 53 = .inr (5, [.ref (ad 54), .ref (ad 55), .ref (ad 56), .ref (ad 57), .ref (ad 58), .int (xI M.rowMany), .ref (ad 59), .ref (ad 60), .ref (ad 61), .ref (ad 62), .int (xI M.parts), .ref (ad 63), .ref (ad 64), .ref (ad 65), .ref (ad 66), .ref (ad 67), .long M.h]) from hM.1) rfl rfl rfl rfl (Nat.le_of_ble_eq_true rfl) ⟨Nat.le_of_ble_eq_true rfl, Nat.le_of_ble_eq_true rfl⟩ ⟨Nat.le_of_ble_eq_true rfl, Nat.le_of_ble_eq_true rfl⟩ dX5_cutter_136 ?_
                    exact xe_i hx hb hrt hlocks hP hS ((by unfold am_cutter; simp only [Int.toNat_natCast]; simp only [sp_get_s hS_t2, sp_get_s hS_t3]; rw [sp_if_f (by omega), sp_if_f (by simp [hS_t2, hS_t3])]; have q9 := hR.cutter hW h_q1 (o := some (r_t2, sp_sep r_t3.2 r_t3.1, z4, 0)) (C' := C) (G' := G9) (V' := sp_up M.cutGives q1 1) (A' := sp_up M.cutAt q1 0) (z := (r_t2.1 : Int)) (gv := 1) (pl := 0) ⟨rfl, hF3, hG9, (xd_t c_118).symm, rfl⟩ hF.2 hH9 ⟨sp_up_s _ _ _, fun j hj => sp_up_n _ _ hj⟩ ⟨sp_up_s _ _ _, fun j hj => sp_up_n _ _ hj⟩; exact ⟨rfl, _, hM, q9, ho⟩)) dX5_cutter_139
                · refine lv_aload_n hx hb dX5_cutter_73 rfl (lv_at hl 0 rfl) ?_
                  refine x_get (T := TX5) (N := 17) hx hb hts uX5 hown hK hP (i := 53) (by omega) (show ew62 53 = .inr (5, [.ref (ad 54), .ref (ad 55), .ref (ad 56), .ref (ad 57), .ref (ad 58), .int (xI M.rowMany), .ref (ad 59), .ref (ad 60), .ref (ad 61), .ref (ad 62), .int (xI M.parts), .ref (ad 63), .ref (ad 64), .ref (ad 65), .ref (ad 66), .ref (ad 67), .long M.h]) from hM.1) rfl 11 (by decide) u_fl_RX5_37 rfl dX5_cutter_74 ?_
                  refine x_sipush hx hb dX5_cutter_77 (by decide +kernel) ?_
                  refine lv_iload_n hx hb dX5_cutter_80 rfl (lv_at hl 1 rfl) ?_
                  refine x_imul hx hb dX5_cutter_81 ?_
                  refine lv_iload hx hb dX5_cutter_82 (lv_at hl 5 rfl) ?_
                  refine x_iadd hx hb dX5_cutter_84 ?_
                  refine lv_aload_n hx hb dX5_cutter_85 rfl (lv_at hl 0 rfl) ?_
                  refine x_get (T := TX5) (N := 17) hx hb hts uX5 hown hK hP (i := 53) (by omega) (show ew62 53 = .inr (5, [.ref (ad 54), .ref (ad 55), .ref (ad 56), .ref (ad 57), .ref (ad 58), .int (xI M.rowMany), .ref (ad 59), .ref (ad 60), .ref (ad 61), .ref (ad 62), .int (xI M.parts), .ref (ad 63), .ref (ad 64), .ref (ad 65), .ref (ad 66), .ref (ad 67), .long M.h]) from hM.1) rfl 2 (by decide) u_fl_RX5_16 rfl dX5_cutter_86 ?_
                  refine x_sipush hx hb dX5_cutter_89 (by decide +kernel) ?_
                  refine lv_iload_n hx hb dX5_cutter_92 rfl (lv_at hl 2 rfl) ?_
                  refine x_imul hx hb dX5_cutter_93 ?_
                  refine lv_iload hx hb dX5_cutter_94 (lv_at hl 5 rfl) ?_
                  refine x_iadd hx hb dX5_cutter_96 ?_
                  refine x_ild hx hb hK hP (i := 56) (by omega) hM.2.2.2.1 (x := M.told ((200 * t2) + K)) (by omega) (congrArg (fun q => xI (M.told q)) (show Int.toNat ((200 * (t2 : Int)) + (K : Int)) = (200 * t2) + K by omega)) dX5_cutter_97 ?_
                  refine x_to (r_t2.2 K) (hT_t2.2 K (by omega)) ?_
                  refine x_ist hx hb hK hP hD hS (i := 63) (by omega) hM.2.2.2.2.2.2.2.2.2.2.1 (by omega) dX5_cutter_98 (fun H locs hP hS => ?_)
                  obtain ⟨en7, he7⟩ : ∃ z, z = va_up ew62 63 (.inl (cA 0, 400, .inl (upd (fun k => xI (C k)) ((200 * q1) + K) (xI (r_t2.2 K))))) := ⟨_, rfl⟩
                  have hP : va_P D vwCl (xw n ad en7) H := by rw [he7, show (200 * q1) + K = (Int.toNat ((200 * (q1 : Int)) + (K : Int))) by omega]; exact hP
                  have hM : MW cA ad en7 (mO M.built M.builtMany M.told M.toldMany M.row M.rowMany M.figures M.partText M.partFrom M.partMany M.parts (sp_up C ((200 * q1) + K) (r_t2.2 K)) (sp_up M.cutMany q1 (r_t2.1 : Int)) M.isCut M.cutGives M.cutAt M.h) := by rw [he7]; exact hM.u_cut ((200 * q1) + K) (r_t2.2 K)
                  have ho : xO 53 68 en en7 := by rw [he7]; exact ho.up (by omega) (by omega)
                  refine x_iinc (lv' := [(5, .int (xI ((K : Int) + 1))), (0, .ref (ad 53)), (1, .int (xI (q1 : Int))), (2, .int (xI (t2 : Int))), (3, .int (xI (t3 : Int))), (4, .int (xb z4))]) (k := 5) hx hb dX5_cutter_99 hl rfl (by decide) rfl (fun ls hl => ?_)
                  refine lv_goto (tgt := 62) hx hb dX5_cutter_102 (by decide) ?_
                  exact ih (K + 1) _ en7 _ _ (by omega) (⟨fun k hk => by
      by_cases q : k = K
      · rw [q, sp_up_s]
      · rw [sp_up_n _ _ (by omega)]; exact hF.1 k (by omega), fun j hj => by rw [sp_up_n _ _ (by omega)]; exact hF.2 j hj⟩) (by omega) hM ho hP hS ls (lv_sub hl [1, 2, 3, 4, 5, 0] rfl)
            exact L62 _ 0 M.cut en1 _ _ (Nat.zero_le _) (⟨fun k hk => absurd hk (Nat.not_lt_zero _), fun j _ => rfl⟩) (Nat.lt_succ_self _) hM ho hP hS ls (lv_sub hl [1, 2, 3, 4, 5, 0] rfl)
        · have hT_t2 : M.toldMany t2 = (r_t2.1 : Int) ∧ ∀ k : Nat, k < r_t2.1 → M.told (200 * t2 + k) = r_t2.2 k := by have q := hR.2.1 t2 h_t2; rw [hS_t2] at q; exact q
          have hz_t2 := hT_t2.1
          have hm_t2 := (hW.2.1 t2 r_t2 h_t2 hS_t2).1
          have hfb_t2 := (hW.2.1 t2 r_t2 h_t2 hS_t2).2
          refine lv_iload_n hx hb dX5_cutter_0 rfl (lv_at hl 1 rfl) ?_
          refine xt_i (As := [.int (xI (q1 : Int))]) (rest := []) ⟨hx, hb, hml, hown, hts⟩ hl.1 (c_X5_isCutter l (q1 : Int) (by omega)) k_X5_isCutter u_ml_RX5_170 rfl rfl (Nat.le_of_ble_eq_true rfl) ⟨Nat.le_of_ble_eq_true rfl, Nat.le_of_ble_eq_true rfl⟩ ⟨Nat.le_of_ble_eq_true rfl, Nat.le_of_ble_eq_true rfl⟩ dX5_cutter_1 ?_
          refine x_top (q1 := True) ⟨fun _ => trivial, fun _ => by omega⟩ ?_
          refine x_ifb_eq (tgt := 21) hx hb dX5_cutter_4 (by decide)  (fun c_4 => absurd trivial c_4) (fun c_4 => ?_)
          refine lv_iload_n hx hb dX5_cutter_7 rfl (lv_at hl 2 rfl) ?_
          refine xt_i (As := [.int (xI (t2 : Int))]) (rest := []) ⟨hx, hb, hml, hown, hts⟩ hl.1 (c_X5_isText l (t2 : Int) (by omega)) k_X5_isText u_ml_RX5_87 rfl rfl (Nat.le_of_ble_eq_true rfl) ⟨Nat.le_of_ble_eq_true rfl, Nat.le_of_ble_eq_true rfl⟩ ⟨Nat.le_of_ble_eq_true rfl, Nat.le_of_ble_eq_true rfl⟩ dX5_cutter_8 ?_
          refine x_top (q1 := True) ⟨fun _ => trivial, fun _ => by omega⟩ ?_
          refine x_ifb_eq (tgt := 21) hx hb dX5_cutter_11 (by decide)  (fun c_11 => absurd trivial c_11) (fun c_11 => ?_)
          refine lv_iload_n hx hb dX5_cutter_14 rfl (lv_at hl 3 rfl) ?_
          refine xt_i (As := [.int (xI z3)]) (rest := []) ⟨hx, hb, hml, hown, hts⟩ hl.1 (c_X5_isText l z3 (by omega)) k_X5_isText u_ml_RX5_87 rfl rfl (Nat.le_of_ble_eq_true rfl) ⟨Nat.le_of_ble_eq_true rfl, Nat.le_of_ble_eq_true rfl⟩ ⟨Nat.le_of_ble_eq_true rfl, Nat.le_of_ble_eq_true rfl⟩ dX5_cutter_15 ?_
          refine x_top (q1 := False) ⟨fun h => absurd h (by omega), False.elim⟩ ?_
          refine x_ifb_ne (tgt := 25) hx hb dX5_cutter_18 (by decide)  (fun c_18 => absurd c_18 id) (fun c_18 => ?_)
          refine x_sipush hx hb dX5_cutter_21 (by decide +kernel) ?_
          exact xe_i hx hb hrt hlocks hP hS ((by unfold am_cutter; simp only [Int.toNat_natCast]; simp only [sp_get_s hS_t2]; rw [sp_if_t (by omega)]; exact ⟨rfl, _, hM, hR, ho⟩)) dX5_cutter_24
    · rcases Classical.em (0 ≤ z3 ∧ z3 < 8) with hx_z3 | hx_z3
      · obtain ⟨t3, rfl⟩ : ∃ q : Nat, z3 = (q : Int) := ⟨z3.toNat, by omega⟩
        have h_t3 : t3 < 8 := by omega
        rcases hS_t3 : S.2.1 t3 with _ | r_t3
        · have hz_t3 : M.toldMany t3 = -1 := by have q := hR.2.1 t3 h_t3; rw [hS_t3] at q; exact q
          refine lv_iload_n hx hb dX5_cutter_0 rfl (lv_at hl 1 rfl) ?_
          refine xt_i (As := [.int (xI (q1 : Int))]) (rest := []) ⟨hx, hb, hml, hown, hts⟩ hl.1 (c_X5_isCutter l (q1 : Int) (by omega)) k_X5_isCutter u_ml_RX5_170 rfl rfl (Nat.le_of_ble_eq_true rfl) ⟨Nat.le_of_ble_eq_true rfl, Nat.le_of_ble_eq_true rfl⟩ ⟨Nat.le_of_ble_eq_true rfl, Nat.le_of_ble_eq_true rfl⟩ dX5_cutter_1 ?_
          refine x_top (q1 := True) ⟨fun _ => trivial, fun _ => by omega⟩ ?_
          refine x_ifb_eq (tgt := 21) hx hb dX5_cutter_4 (by decide)  (fun c_4 => absurd trivial c_4) (fun c_4 => ?_)
          refine lv_iload_n hx hb dX5_cutter_7 rfl (lv_at hl 2 rfl) ?_
          refine xt_i (As := [.int (xI z2)]) (rest := []) ⟨hx, hb, hml, hown, hts⟩ hl.1 (c_X5_isText l z2 (by omega)) k_X5_isText u_ml_RX5_87 rfl rfl (Nat.le_of_ble_eq_true rfl) ⟨Nat.le_of_ble_eq_true rfl, Nat.le_of_ble_eq_true rfl⟩ ⟨Nat.le_of_ble_eq_true rfl, Nat.le_of_ble_eq_true rfl⟩ dX5_cutter_8 ?_
          refine x_top (q1 := False) ⟨fun h => absurd h (by omega), False.elim⟩ ?_
          refine x_ifb_eq (tgt := 21) hx hb dX5_cutter_11 (by decide)  (fun c_11 => ?_) (fun c_11 => absurd c_11 id)
          refine x_sipush hx hb dX5_cutter_21 (by decide +kernel) ?_
          exact xe_i hx hb hrt hlocks hP hS ((by unfold am_cutter; simp only [Int.toNat_natCast]; rw [sp_if_t (by omega)]; exact ⟨rfl, _, hM, hR, ho⟩)) dX5_cutter_24
        · have hT_t3 : M.toldMany t3 = (r_t3.1 : Int) ∧ ∀ k : Nat, k < r_t3.1 → M.told (200 * t3 + k) = r_t3.2 k := by have q := hR.2.1 t3 h_t3; rw [hS_t3] at q; exact q
          have hz_t3 := hT_t3.1
          have hm_t3 := (hW.2.1 t3 r_t3 h_t3 hS_t3).1
          have hfb_t3 := (hW.2.1 t3 r_t3 h_t3 hS_t3).2
          refine lv_iload_n hx hb dX5_cutter_0 rfl (lv_at hl 1 rfl) ?_
          refine xt_i (As := [.int (xI (q1 : Int))]) (rest := []) ⟨hx, hb, hml, hown, hts⟩ hl.1 (c_X5_isCutter l (q1 : Int) (by omega)) k_X5_isCutter u_ml_RX5_170 rfl rfl (Nat.le_of_ble_eq_true rfl) ⟨Nat.le_of_ble_eq_true rfl, Nat.le_of_ble_eq_true rfl⟩ ⟨Nat.le_of_ble_eq_true rfl, Nat.le_of_ble_eq_true rfl⟩ dX5_cutter_1 ?_
          refine x_top (q1 := True) ⟨fun _ => trivial, fun _ => by omega⟩ ?_
          refine x_ifb_eq (tgt := 21) hx hb dX5_cutter_4 (by decide)  (fun c_4 => absurd trivial c_4) (fun c_4 => ?_)
          refine lv_iload_n hx hb dX5_cutter_7 rfl (lv_at hl 2 rfl) ?_
          refine xt_i (As := [.int (xI z2)]) (rest := []) ⟨hx, hb, hml, hown, hts⟩ hl.1 (c_X5_isText l z2 (by omega)) k_X5_isText u_ml_RX5_87 rfl rfl (Nat.le_of_ble_eq_true rfl) ⟨Nat.le_of_ble_eq_true rfl, Nat.le_of_ble_eq_true rfl⟩ ⟨Nat.le_of_ble_eq_true rfl, Nat.le_of_ble_eq_true rfl⟩ dX5_cutter_8 ?_
          refine x_top (q1 := False) ⟨fun h => absurd h (by omega), False.elim⟩ ?_
          refine x_ifb_eq (tgt := 21) hx hb dX5_cutter_11 (by decide)  (fun c_11 => ?_) (fun c_11 => absurd c_11 id)
          refine x_sipush hx hb dX5_cutter_21 (by decide +kernel) ?_
          exact xe_i hx hb hrt hlocks hP hS ((by unfold am_cutter; simp only [Int.toNat_natCast]; simp only [sp_get_s hS_t3]; rw [sp_if_t (by omega)]; exact ⟨rfl, _, hM, hR, ho⟩)) dX5_cutter_24
      · refine lv_iload_n hx hb dX5_cutter_0 rfl (lv_at hl 1 rfl) ?_
        refine xt_i (As := [.int (xI (q1 : Int))]) (rest := []) ⟨hx, hb, hml, hown, hts⟩ hl.1 (c_X5_isCutter l (q1 : Int) (by omega)) k_X5_isCutter u_ml_RX5_170 rfl rfl (Nat.le_of_ble_eq_true rfl) ⟨Nat.le_of_ble_eq_true rfl, Nat.le_of_ble_eq_true rfl⟩ ⟨Nat.le_of_ble_eq_true rfl, Nat.le_of_ble_eq_true rfl⟩ dX5_cutter_1 ?_
        refine x_top (q1 := True) ⟨fun _ => trivial, fun _ => by omega⟩ ?_
        refine x_ifb_eq (tgt := 21) hx hb dX5_cutter_4 (by decide)  (fun c_4 => absurd trivial c_4) (fun c_4 => ?_)
        refine lv_iload_n hx hb dX5_cutter_7 rfl (lv_at hl 2 rfl) ?_
        refine xt_i (As := [.int (xI z2)]) (rest := []) ⟨hx, hb, hml, hown, hts⟩ hl.1 (c_X5_isText l z2 (by omega)) k_X5_isText u_ml_RX5_87 rfl rfl (Nat.le_of_ble_eq_true rfl) ⟨Nat.le_of_ble_eq_true rfl, Nat.le_of_ble_eq_true rfl⟩ ⟨Nat.le_of_ble_eq_true rfl, Nat.le_of_ble_eq_true rfl⟩ dX5_cutter_8 ?_
        refine x_top (q1 := False) ⟨fun h => absurd h (by omega), False.elim⟩ ?_
        refine x_ifb_eq (tgt := 21) hx hb dX5_cutter_11 (by decide)  (fun c_11 => ?_) (fun c_11 => absurd c_11 id)
        refine x_sipush hx hb dX5_cutter_21 (by decide +kernel) ?_
        exact xe_i hx hb hrt hlocks hP hS ((by unfold am_cutter; simp only [Int.toNat_natCast]; rw [sp_if_t (by omega)]; exact ⟨rfl, _, hM, hR, ho⟩)) dX5_cutter_24
  · rcases Classical.em (0 ≤ z2 ∧ z2 < 8) with hx_z2 | hx_z2
    · obtain ⟨t2, rfl⟩ : ∃ q : Nat, z2 = (q : Int) := ⟨z2.toNat, by omega⟩
      have h_t2 : t2 < 8 := by omega
      rcases hS_t2 : S.2.1 t2 with _ | r_t2
      · rcases Classical.em (0 ≤ z3 ∧ z3 < 8) with hx_z3 | hx_z3
        · obtain ⟨t3, rfl⟩ : ∃ q : Nat, z3 = (q : Int) := ⟨z3.toNat, by omega⟩
          have h_t3 : t3 < 8 := by omega
          rcases hS_t3 : S.2.1 t3 with _ | r_t3
          · have hz_t2 : M.toldMany t2 = -1 := by have q := hR.2.1 t2 h_t2; rw [hS_t2] at q; exact q
            have hz_t3 : M.toldMany t3 = -1 := by have q := hR.2.1 t3 h_t3; rw [hS_t3] at q; exact q
            refine lv_iload_n hx hb dX5_cutter_0 rfl (lv_at hl 1 rfl) ?_
            refine xt_i (As := [.int (xI z1)]) (rest := []) ⟨hx, hb, hml, hown, hts⟩ hl.1 (c_X5_isCutter l z1 (by omega)) k_X5_isCutter u_ml_RX5_170 rfl rfl (Nat.le_of_ble_eq_true rfl) ⟨Nat.le_of_ble_eq_true rfl, Nat.le_of_ble_eq_true rfl⟩ ⟨Nat.le_of_ble_eq_true rfl, Nat.le_of_ble_eq_true rfl⟩ dX5_cutter_1 ?_
            refine x_top (q1 := False) ⟨fun h => absurd h (by omega), False.elim⟩ ?_
            refine x_ifb_eq (tgt := 21) hx hb dX5_cutter_4 (by decide)  (fun c_4 => ?_) (fun c_4 => absurd c_4 id)
            refine x_sipush hx hb dX5_cutter_21 (by decide +kernel) ?_
            exact xe_i hx hb hrt hlocks hP hS ((by unfold am_cutter; simp only [Int.toNat_natCast]; rw [sp_if_t (by omega)]; exact ⟨rfl, _, hM, hR, ho⟩)) dX5_cutter_24
          · have hz_t2 : M.toldMany t2 = -1 := by have q := hR.2.1 t2 h_t2; rw [hS_t2] at q; exact q
            have hT_t3 : M.toldMany t3 = (r_t3.1 : Int) ∧ ∀ k : Nat, k < r_t3.1 → M.told (200 * t3 + k) = r_t3.2 k := by have q := hR.2.1 t3 h_t3; rw [hS_t3] at q; exact q
            have hz_t3 := hT_t3.1
            have hm_t3 := (hW.2.1 t3 r_t3 h_t3 hS_t3).1
            have hfb_t3 := (hW.2.1 t3 r_t3 h_t3 hS_t3).2
            refine lv_iload_n hx hb dX5_cutter_0 rfl (lv_at hl 1 rfl) ?_
            refine xt_i (As := [.int (xI z1)]) (rest := []) ⟨hx, hb, hml, hown, hts⟩ hl.1 (c_X5_isCutter l z1 (by omega)) k_X5_isCutter u_ml_RX5_170 rfl rfl (Nat.le_of_ble_eq_true rfl) ⟨Nat.le_of_ble_eq_true rfl, Nat.le_of_ble_eq_true rfl⟩ ⟨Nat.le_of_ble_eq_true rfl, Nat.le_of_ble_eq_true rfl⟩ dX5_cutter_1 ?_
            refine x_top (q1 := False) ⟨fun h => absurd h (by omega), False.elim⟩ ?_
            refine x_ifb_eq (tgt := 21) hx hb dX5_cutter_4 (by decide)  (fun c_4 => ?_) (fun c_4 => absurd c_4 id)
            refine x_sipush hx hb dX5_cutter_21 (by decide +kernel) ?_
            exact xe_i hx hb hrt hlocks hP hS ((by unfold am_cutter; simp only [Int.toNat_natCast]; simp only [sp_get_s hS_t3]; rw [sp_if_t (by omega)]; exact ⟨rfl, _, hM, hR, ho⟩)) dX5_cutter_24
        · have hz_t2 : M.toldMany t2 = -1 := by have q := hR.2.1 t2 h_t2; rw [hS_t2] at q; exact q
          refine lv_iload_n hx hb dX5_cutter_0 rfl (lv_at hl 1 rfl) ?_
          refine xt_i (As := [.int (xI z1)]) (rest := []) ⟨hx, hb, hml, hown, hts⟩ hl.1 (c_X5_isCutter l z1 (by omega)) k_X5_isCutter u_ml_RX5_170 rfl rfl (Nat.le_of_ble_eq_true rfl) ⟨Nat.le_of_ble_eq_true rfl, Nat.le_of_ble_eq_true rfl⟩ ⟨Nat.le_of_ble_eq_true rfl, Nat.le_of_ble_eq_true rfl⟩ dX5_cutter_1 ?_
          refine x_top (q1 := False) ⟨fun h => absurd h (by omega), False.elim⟩ ?_
          refine x_ifb_eq (tgt := 21) hx hb dX5_cutter_4 (by decide)  (fun c_4 => ?_) (fun c_4 => absurd c_4 id)
          refine x_sipush hx hb dX5_cutter_21 (by decide +kernel) ?_
          exact xe_i hx hb hrt hlocks hP hS ((by unfold am_cutter; simp only [Int.toNat_natCast]; rw [sp_if_t (by omega)]; exact ⟨rfl, _, hM, hR, ho⟩)) dX5_cutter_24
      · rcases Classical.em (0 ≤ z3 ∧ z3 < 8) with hx_z3 | hx_z3
        · obtain ⟨t3, rfl⟩ : ∃ q : Nat, z3 = (q : Int) := ⟨z3.toNat, by omega⟩
          have h_t3 : t3 < 8 := by omega
          rcases hS_t3 : S.2.1 t3 with _ | r_t3
          · have hT_t2 : M.toldMany t2 = (r_t2.1 : Int) ∧ ∀ k : Nat, k < r_t2.1 → M.told (200 * t2 + k) = r_t2.2 k := by have q := hR.2.1 t2 h_t2; rw [hS_t2] at q; exact q
            have hz_t2 := hT_t2.1
            have hm_t2 := (hW.2.1 t2 r_t2 h_t2 hS_t2).1
            have hfb_t2 := (hW.2.1 t2 r_t2 h_t2 hS_t2).2
            have hz_t3 : M.toldMany t3 = -1 := by have q := hR.2.1 t3 h_t3; rw [hS_t3] at q; exact q
            refine lv_iload_n hx hb dX5_cutter_0 rfl (lv_at hl 1 rfl) ?_
            refine xt_i (As := [.int (xI z1)]) (rest := []) ⟨hx, hb, hml, hown, hts⟩ hl.1 (c_X5_isCutter l z1 (by omega)) k_X5_isCutter u_ml_RX5_170 rfl rfl (Nat.le_of_ble_eq_true rfl) ⟨Nat.le_of_ble_eq_true rfl, Nat.le_of_ble_eq_true rfl⟩ ⟨Nat.le_of_ble_eq_true rfl, Nat.le_of_ble_eq_true rfl⟩ dX5_cutter_1 ?_
            refine x_top (q1 := False) ⟨fun h => absurd h (by omega), False.elim⟩ ?_
            refine x_ifb_eq (tgt := 21) hx hb dX5_cutter_4 (by decide)  (fun c_4 => ?_) (fun c_4 => absurd c_4 id)
            refine x_sipush hx hb dX5_cutter_21 (by decide +kernel) ?_
            exact xe_i hx hb hrt hlocks hP hS ((by unfold am_cutter; simp only [Int.toNat_natCast]; simp only [sp_get_s hS_t2]; rw [sp_if_t (by omega)]; exact ⟨rfl, _, hM, hR, ho⟩)) dX5_cutter_24
          · have hT_t2 : M.toldMany t2 = (r_t2.1 : Int) ∧ ∀ k : Nat, k < r_t2.1 → M.told (200 * t2 + k) = r_t2.2 k := by have q := hR.2.1 t2 h_t2; rw [hS_t2] at q; exact q
            have hz_t2 := hT_t2.1
            have hm_t2 := (hW.2.1 t2 r_t2 h_t2 hS_t2).1
            have hfb_t2 := (hW.2.1 t2 r_t2 h_t2 hS_t2).2
            have hT_t3 : M.toldMany t3 = (r_t3.1 : Int) ∧ ∀ k : Nat, k < r_t3.1 → M.told (200 * t3 + k) = r_t3.2 k := by have q := hR.2.1 t3 h_t3; rw [hS_t3] at q; exact q
            have hz_t3 := hT_t3.1
            have hm_t3 := (hW.2.1 t3 r_t3 h_t3 hS_t3).1
            have hfb_t3 := (hW.2.1 t3 r_t3 h_t3 hS_t3).2
            refine lv_iload_n hx hb dX5_cutter_0 rfl (lv_at hl 1 rfl) ?_
            refine xt_i (As := [.int (xI z1)]) (rest := []) ⟨hx, hb, hml, hown, hts⟩ hl.1 (c_X5_isCutter l z1 (by omega)) k_X5_isCutter u_ml_RX5_170 rfl rfl (Nat.le_of_ble_eq_true rfl) ⟨Nat.le_of_ble_eq_true rfl, Nat.le_of_ble_eq_true rfl⟩ ⟨Nat.le_of_ble_eq_true rfl, Nat.le_of_ble_eq_true rfl⟩ dX5_cutter_1 ?_
            refine x_top (q1 := False) ⟨fun h => absurd h (by omega), False.elim⟩ ?_
            refine x_ifb_eq (tgt := 21) hx hb dX5_cutter_4 (by decide)  (fun c_4 => ?_) (fun c_4 => absurd c_4 id)
            refine x_sipush hx hb dX5_cutter_21 (by decide +kernel) ?_
            exact xe_i hx hb hrt hlocks hP hS ((by unfold am_cutter; simp only [Int.toNat_natCast]; simp only [sp_get_s hS_t2, sp_get_s hS_t3]; rw [sp_if_t (by omega)]; exact ⟨rfl, _, hM, hR, ho⟩)) dX5_cutter_24
        · have hT_t2 : M.toldMany t2 = (r_t2.1 : Int) ∧ ∀ k : Nat, k < r_t2.1 → M.told (200 * t2 + k) = r_t2.2 k := by have q := hR.2.1 t2 h_t2; rw [hS_t2] at q; exact q
          have hz_t2 := hT_t2.1
          have hm_t2 := (hW.2.1 t2 r_t2 h_t2 hS_t2).1
          have hfb_t2 := (hW.2.1 t2 r_t2 h_t2 hS_t2).2
          refine lv_iload_n hx hb dX5_cutter_0 rfl (lv_at hl 1 rfl) ?_
          refine xt_i (As := [.int (xI z1)]) (rest := []) ⟨hx, hb, hml, hown, hts⟩ hl.1 (c_X5_isCutter l z1 (by omega)) k_X5_isCutter u_ml_RX5_170 rfl rfl (Nat.le_of_ble_eq_true rfl) ⟨Nat.le_of_ble_eq_true rfl, Nat.le_of_ble_eq_true rfl⟩ ⟨Nat.le_of_ble_eq_true rfl, Nat.le_of_ble_eq_true rfl⟩ dX5_cutter_1 ?_
          refine x_top (q1 := False) ⟨fun h => absurd h (by omega), False.elim⟩ ?_
          refine x_ifb_eq (tgt := 21) hx hb dX5_cutter_4 (by decide)  (fun c_4 => ?_) (fun c_4 => absurd c_4 id)
          refine x_sipush hx hb dX5_cutter_21 (by decide +kernel) ?_
          exact xe_i hx hb hrt hlocks hP hS ((by unfold am_cutter; simp only [Int.toNat_natCast]; simp only [sp_get_s hS_t2]; rw [sp_if_t (by omega)]; exact ⟨rfl, _, hM, hR, ho⟩)) dX5_cutter_24
    · rcases Classical.em (0 ≤ z3 ∧ z3 < 8) with hx_z3 | hx_z3
      · obtain ⟨t3, rfl⟩ : ∃ q : Nat, z3 = (q : Int) := ⟨z3.toNat, by omega⟩
        have h_t3 : t3 < 8 := by omega
        rcases hS_t3 : S.2.1 t3 with _ | r_t3
        · have hz_t3 : M.toldMany t3 = -1 := by have q := hR.2.1 t3 h_t3; rw [hS_t3] at q; exact q
          refine lv_iload_n hx hb dX5_cutter_0 rfl (lv_at hl 1 rfl) ?_
          refine xt_i (As := [.int (xI z1)]) (rest := []) ⟨hx, hb, hml, hown, hts⟩ hl.1 (c_X5_isCutter l z1 (by omega)) k_X5_isCutter u_ml_RX5_170 rfl rfl (Nat.le_of_ble_eq_true rfl) ⟨Nat.le_of_ble_eq_true rfl, Nat.le_of_ble_eq_true rfl⟩ ⟨Nat.le_of_ble_eq_true rfl, Nat.le_of_ble_eq_true rfl⟩ dX5_cutter_1 ?_
          refine x_top (q1 := False) ⟨fun h => absurd h (by omega), False.elim⟩ ?_
          refine x_ifb_eq (tgt := 21) hx hb dX5_cutter_4 (by decide)  (fun c_4 => ?_) (fun c_4 => absurd c_4 id)
          refine x_sipush hx hb dX5_cutter_21 (by decide +kernel) ?_
          exact xe_i hx hb hrt hlocks hP hS ((by unfold am_cutter; simp only [Int.toNat_natCast]; rw [sp_if_t (by omega)]; exact ⟨rfl, _, hM, hR, ho⟩)) dX5_cutter_24
        · have hT_t3 : M.toldMany t3 = (r_t3.1 : Int) ∧ ∀ k : Nat, k < r_t3.1 → M.told (200 * t3 + k) = r_t3.2 k := by have q := hR.2.1 t3 h_t3; rw [hS_t3] at q; exact q
          have hz_t3 := hT_t3.1
          have hm_t3 := (hW.2.1 t3 r_t3 h_t3 hS_t3).1
          have hfb_t3 := (hW.2.1 t3 r_t3 h_t3 hS_t3).2
          refine lv_iload_n hx hb dX5_cutter_0 rfl (lv_at hl 1 rfl) ?_
          refine xt_i (As := [.int (xI z1)]) (rest := []) ⟨hx, hb, hml, hown, hts⟩ hl.1 (c_X5_isCutter l z1 (by omega)) k_X5_isCutter u_ml_RX5_170 rfl rfl (Nat.le_of_ble_eq_true rfl) ⟨Nat.le_of_ble_eq_true rfl, Nat.le_of_ble_eq_true rfl⟩ ⟨Nat.le_of_ble_eq_true rfl, Nat.le_of_ble_eq_true rfl⟩ dX5_cutter_1 ?_
          refine x_top (q1 := False) ⟨fun h => absurd h (by omega), False.elim⟩ ?_
          refine x_ifb_eq (tgt := 21) hx hb dX5_cutter_4 (by decide)  (fun c_4 => ?_) (fun c_4 => absurd c_4 id)
          refine x_sipush hx hb dX5_cutter_21 (by decide +kernel) ?_
          exact xe_i hx hb hrt hlocks hP hS ((by unfold am_cutter; simp only [Int.toNat_natCast]; simp only [sp_get_s hS_t3]; rw [sp_if_t (by omega)]; exact ⟨rfl, _, hM, hR, ho⟩)) dX5_cutter_24
      · refine lv_iload_n hx hb dX5_cutter_0 rfl (lv_at hl 1 rfl) ?_
        refine xt_i (As := [.int (xI z1)]) (rest := []) ⟨hx, hb, hml, hown, hts⟩ hl.1 (c_X5_isCutter l z1 (by omega)) k_X5_isCutter u_ml_RX5_170 rfl rfl (Nat.le_of_ble_eq_true rfl) ⟨Nat.le_of_ble_eq_true rfl, Nat.le_of_ble_eq_true rfl⟩ ⟨Nat.le_of_ble_eq_true rfl, Nat.le_of_ble_eq_true rfl⟩ dX5_cutter_1 ?_
        refine x_top (q1 := False) ⟨fun h => absurd h (by omega), False.elim⟩ ?_
        refine x_ifb_eq (tgt := 21) hx hb dX5_cutter_4 (by decide)  (fun c_4 => ?_) (fun c_4 => absurd c_4 id)
        refine x_sipush hx hb dX5_cutter_21 (by decide +kernel) ?_
        exact xe_i hx hb hrt hlocks hP hS ((by unfold am_cutter; rw [sp_if_t (by omega)]; exact ⟨rfl, _, hM, hR, ho⟩)) dX5_cutter_24
