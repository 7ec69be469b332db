set_option maxRecDepth 20000 in
theorem c_X4_split (l : Launch) (D : va_G) (cA : Nat → ClassId) (n : Nat) (ad : Nat → Nat) (en : Nat → va_E) (sz : Nat) (hn : 53 ≤ n) {S : xSt} (hC : CW cA ad en S) (z1 : Int) (hz1 : -2147483648 ≤ z1 ∧ z1 ≤ 2147483647) (z2 : Int) (hz2 : -2147483648 ≤ z2 ∧ z2 ≤ 2147483647) (z3 : Int) (hz3 : -2147483648 ≤ z3 ∧ z3 ≤ 2147483647) : Met l yX4_split (Cond.code yX4_split cX4_split 5 (some .int) :: xU) (xrm 4 88) (va_Pc [.ref (ad 0), .int (xI z1), .int (xI z2), .int (xI z3)] (fun U => xM D cA n ad en sz U ∧ xZ U)) (va_Qi (fun r u => r = xI (am_split S z1 z2 z3).1 ∧ CW cA ad u (am_split S z1 z2 z3).2 ∧ xO 0 53 en u) (xE D n ad) (xA n ad sz)) 0 0 (xA n ad sz) := by
  refine xmet (by decide) (Nat.le_of_ble_eq_true rfl) (fun p e s mm args below meth c ls hx hb hrt hml hown hts hlocks hname hB hl => ?_)
  obtain ⟨⟨⟨hP, hK, hN⟩, hsz, hDt⟩, hZ⟩ := hB
  have hD : xD (xA n ad sz) n ad := xD_self hDt sz
  have hA : ∀ q : Nat, s.heap.size ≤ q → xA n ad sz q := fun q h => Or.inr (by rw [← hsz]; exact h)
  have hS : va_S (xA n ad sz) s.heap s.heap [] := va_S.rf
  have hown : s.vm.findClass RX4 = some mm.cls := hown
  have hl : lv_has ls 5 [(0, .ref (ad 0)), (1, .int (xI z1)), (2, .int (xI z2)), (3, .int (xI z3))] := hl
  rcases Classical.em (0 ≤ z1 ∧ z1 < 8) with hx_z1 | hx_z1
  · obtain ⟨t1, rfl⟩ : ∃ q : Nat, z1 = (q : Int) := ⟨z1.toNat, by omega⟩
    have h_t1 : t1 < 8 := by omega
    rcases hS_t1 : S.2.1 t1 with _ | r_t1
    · have hT_t1 : XT cA ad en (21 + 3 * t1) none := by have q : XT cA ad en (21 + 3 * t1) (S.2.1 t1) := hC.rt h_t1; rw [hS_t1] at q; exact q
      have hXP := hC.rp
      have hp0 := hXP.to0
      obtain ⟨wn, hw, hwb⟩ := hXP.2.1
      have hwm := hw.2.2.1
      have hPn := hXP.2.2.2.2.1
      have hb1 : ∀ k : Nat, k < S.2.2.1.1 → S.2.2.1.2.1 k ≤ 200 := fun k hk => by have h1 := hwb k hk; have h2 := hXP.2.2.2.2.2.1 k hk; omega
      have hb2 : ∀ k : Nat, k < S.2.2.1.1 → S.2.2.1.2.2.1 k ≤ 200 := fun k hk => by have h1 := hwb k hk; omega
      refine lv_aload_n hx hb dX4_split_0 rfl (lv_at hl 0 rfl) ?_
      refine lv_iload_n hx hb dX4_split_1 rfl (lv_at hl 1 rfl) ?_
      refine xv_q (i := 0) (As := [.int (xI (t1 : Int))]) (rest := []) ⟨hx, hb, hml, hown, hts⟩ hl.1 (c_X4_textOf_in l D cA n ad en (by omega) hC t1 (by omega)) k_X4_textOf u_ml_RX4_97 hK hN hP (by omega) hC.1 rfl rfl rfl rfl (Nat.le_of_ble_eq_true rfl) ⟨Nat.le_of_ble_eq_true rfl, Nat.le_of_ble_eq_true rfl⟩ ⟨Nat.le_of_ble_eq_true rfl, Nat.le_of_ble_eq_true rfl⟩ dX4_split_2 ?_
      refine lv_astore (lv' := [(4, .ref (ad (21 + 3 * t1))), (0, .ref (ad 0)), (1, .int (xI (t1 : Int))), (2, .int (xI z2)), (3, .int (xI z3))]) hx hb dX4_split_5 hl (by decide) rfl (fun ls hl => ?_)
      refine lv_aload hx hb dX4_split_7 (lv_at hl 0 rfl) ?_
      refine lv_ifnonnull (tgt := 16) hx hb dX4_split_9 (by decide) ?_
      refine lv_iload_n hx hb dX4_split_16 rfl (lv_at hl 3 rfl) ?_
      refine x_sB (As := [.int (xI z2)]) (rest := []) ⟨hx, hb, hml, hown, hts⟩ hl.1 (c_X4_isSeparator l z2 (by omega)) k_X4_isSeparator u_ml_RX4_174 rfl rfl (Nat.le_of_ble_eq_true rfl) ⟨Nat.le_of_ble_eq_true rfl, Nat.le_of_ble_eq_true rfl⟩ ⟨Nat.le_of_ble_eq_true rfl, Nat.le_of_ble_eq_true rfl⟩ dX4_split_17 xZ_blind (fun U hU hW => xZA.to (A := fun _ => False) hZ va_S.rf hU hW) ?_
      refine x_ifb_ne (tgt := 27) hx hb dX4_split_20 (by decide)  (fun c_20 => ?_) (fun c_20 => ?_)
      · refine lv_aload hx hb dX4_split_27 (lv_at hl 0 rfl) ?_
        refine x_getn (T := TX3) (N := 2) hx hb hts uX3 hown hN hK hP (i := 21 + 3 * t1) (by omega) hT_t1.1 rfl 1 (by decide) (by simp only [xNest, List.mem_cons]; exact Or.inr (Or.inr (Or.inr (Or.inr (Or.inr (Or.inr (Or.inl rfl))))))) rfl dX4_split_29 ?_
        refine x_if_eq (tgt := 39) hx hb dX4_split_32 (by decide) (by omega) (fun c_32 => absurd c_32 (by omega)) (fun c_32 => ?_)
        refine x_sipush hx hb dX4_split_35 (by decide +kernel) ?_
        exact xe_i hx hb hrt hlocks hP hS ((by unfold am_split; simp only [Int.toNat_natCast]; rw [sp_if_f (by omega), sp_if_f (fun q => q c_20), sp_if_t (by simp [hS_t1])]; exact ⟨rfl, hC, xO.rf⟩)) dX4_split_38
      · refine x_sipush hx hb dX4_split_23 (by decide +kernel) ?_
        exact xe_i hx hb hrt hlocks hP hS ((by unfold am_split; simp only [Int.toNat_natCast]; rw [sp_if_f (by omega), sp_if_t c_20]; exact ⟨rfl, hC, xO.rf⟩)) dX4_split_26
    · have hT_t1 : XT cA ad en (21 + 3 * t1) (some r_t1) := by have q : XT cA ad en (21 + 3 * t1) (S.2.1 t1) := hC.rt h_t1; rw [hS_t1] at q; exact q
      have hr_t1 := hT_t1.2
      have hm_t1 := hr_t1.2.2.1
      have hXP := hC.rp
      have hp0 := hXP.to0
      obtain ⟨wn, hw, hwb⟩ := hXP.2.1
      have hwm := hw.2.2.1
      have hPn := hXP.2.2.2.2.1
      have hb1 : ∀ k : Nat, k < S.2.2.1.1 → S.2.2.1.2.1 k ≤ 200 := fun k hk => by have h1 := hwb k hk; have h2 := hXP.2.2.2.2.2.1 k hk; omega
      have hb2 : ∀ k : Nat, k < S.2.2.1.1 → S.2.2.1.2.2.1 k ≤ 200 := fun k hk => by have h1 := hwb k hk; omega
      refine lv_aload_n hx hb dX4_split_0 rfl (lv_at hl 0 rfl) ?_
      refine lv_iload_n hx hb dX4_split_1 rfl (lv_at hl 1 rfl) ?_
      refine xv_q (i := 0) (As := [.int (xI (t1 : Int))]) (rest := []) ⟨hx, hb, hml, hown, hts⟩ hl.1 (c_X4_textOf_in l D cA n ad en (by omega) hC t1 (by omega)) k_X4_textOf u_ml_RX4_97 hK hN hP (by omega) hC.1 rfl rfl rfl rfl (Nat.le_of_ble_eq_true rfl) ⟨Nat.le_of_ble_eq_true rfl, Nat.le_of_ble_eq_true rfl⟩ ⟨Nat.le_of_ble_eq_true rfl, Nat.le_of_ble_eq_true rfl⟩ dX4_split_2 ?_
      refine lv_astore (lv' := [(4, .ref (ad (21 + 3 * t1))), (0, .ref (ad 0)), (1, .int (xI (t1 : Int))), (2, .int (xI z2)), (3, .int (xI z3))]) hx hb dX4_split_5 hl (by decide) rfl (fun ls hl => ?_)
      refine lv_aload hx hb dX4_split_7 (lv_at hl 0 rfl) ?_
      refine lv_ifnonnull (tgt := 16) hx hb dX4_split_9 (by decide) ?_
      refine lv_iload_n hx hb dX4_split_16 rfl (lv_at hl 3 rfl) ?_
      refine x_sB (As := [.int (xI z2)]) (rest := []) ⟨hx, hb, hml, hown, hts⟩ hl.1 (c_X4_isSeparator l z2 (by omega)) k_X4_isSeparator u_ml_RX4_174 rfl rfl (Nat.le_of_ble_eq_true rfl) ⟨Nat.le_of_ble_eq_true rfl, Nat.le_of_ble_eq_true rfl⟩ ⟨Nat.le_of_ble_eq_true rfl, Nat.le_of_ble_eq_true rfl⟩ dX4_split_17 xZ_blind (fun U hU hW => xZA.to (A := fun _ => False) hZ va_S.rf hU hW) ?_
      refine x_ifb_ne (tgt := 27) hx hb dX4_split_20 (by decide)  (fun c_20 => ?_) (fun c_20 => ?_)
      · refine lv_aload hx hb dX4_split_27 (lv_at hl 0 rfl) ?_
        refine x_getn (T := TX3) (N := 2) hx hb hts uX3 hown hN hK hP (i := 21 + 3 * t1) (by omega) hT_t1.1 rfl 1 (by decide) (by simp only [xNest, List.mem_cons]; exact Or.inr (Or.inr (Or.inr (Or.inr (Or.inr (Or.inr (Or.inl rfl))))))) rfl dX4_split_29 ?_
        refine x_if_eq (tgt := 39) hx hb dX4_split_32 (by decide) (by omega) (fun c_32 => ?_) (fun c_32 => absurd c_32 (by omega))
        refine lv_aload_n hx hb dX4_split_39 rfl (lv_at hl 1 rfl) ?_
        refine x_get (T := TX4) (N := 6) hx hb hts uX4 hown hK hP (i := 0) (by omega) hC.1 rfl 3 (by decide) u_fl_RX4_30 rfl dX4_split_40 ?_
        refine lv_aload hx hb dX4_split_43 (lv_at hl 0 rfl) ?_
        refine x_getn (T := TX3) (N := 2) hx hb hts uX3 hown hN hK hP (i := 21 + 3 * t1) (by omega) hT_t1.1 rfl 0 (by decide) (by simp only [xNest, List.mem_cons]; exact Or.inr (Or.inr (Or.inr (Or.inr (Or.inr (Or.inl rfl)))))) rfl dX4_split_45 ?_
        refine lv_iload_n hx hb dX4_split_48 rfl (lv_at hl 3 rfl) ?_
        refine lv_iload_n hx hb dX4_split_49 rfl (lv_at hl 4 rfl) ?_
        refine xm_v (i := 4) (As := [.ref (ad (21 + 3 * t1 + 1)), .int (xI z2), .int (xI z3)]) (rest := []) ⟨hx, hb, hml, hown, hts⟩ hl.1 (c_X1_fall l D cA n ad en _ (by omega) hXP (by omega) hr_t1 (by omega) z2 z3 (by omega) (by omega)) k_X1_fall u_ml_RX4_177 hK hN hP (by omega) hp0.1 rfl rfl rfl rfl (Nat.le_of_ble_eq_true rfl) ⟨Nat.le_of_ble_eq_true rfl, Nat.le_of_ble_eq_true rfl⟩ ⟨Nat.le_of_ble_eq_true rfl, Nat.le_of_ble_eq_true rfl⟩ dX4_split_50 hD hS hA (fun en1 H locs hp1 hP hS => ?_)
        obtain ⟨hXP9, hop⟩ := hp1
        have hC9 := hC.pts hop hXP9
        have hp9 := hXP9.to0
        have ho : xO 0 53 en en1 := hop.mo (by omega) (by omega)
        refine lv_aload_n hx hb dX4_split_53 rfl (lv_at hl 1 rfl) ?_
        refine x_get (T := TX4) (N := 6) hx hb hts uX4 hown hK hP (i := 0) (by omega) hC9.1 rfl 3 (by decide) u_fl_RX4_30 rfl dX4_split_54 ?_
        refine x_getn (T := TX1) (N := 4) hx hb hts uX1 hown hN hK hP (i := 4) (by omega) hp9.1 rfl 3 (by decide) (by simp only [xNest, List.mem_cons]; exact Or.inr (Or.inr (Or.inr (Or.inr (Or.inl rfl))))) rfl dX4_split_57 ?_
        exact xe_i hx hb hrt hlocks hP hS ((by unfold am_split; simp only [Int.toNat_natCast]; simp only [sp_get_s hS_t1]; rw [sp_if_f (by omega), sp_if_f (fun q => q c_20), sp_if_f (by simp [hS_t1])]; exact ⟨rfl, hC9, ho⟩)) dX4_split_60
      · refine x_sipush hx hb dX4_split_23 (by decide +kernel) ?_
        exact xe_i hx hb hrt hlocks hP hS ((by unfold am_split; simp only [Int.toNat_natCast]; simp only [sp_get_s hS_t1]; rw [sp_if_f (by omega), sp_if_t c_20]; exact ⟨rfl, hC, xO.rf⟩)) dX4_split_26
  · have hXP := hC.rp
    have hp0 := hXP.to0
    obtain ⟨wn, hw, hwb⟩ := hXP.2.1
    have hwm := hw.2.2.1
    have hPn := hXP.2.2.2.2.1
    have hb1 : ∀ k : Nat, k < S.2.2.1.1 → S.2.2.1.2.1 k ≤ 200 := fun k hk => by have h1 := hwb k hk; have h2 := hXP.2.2.2.2.2.1 k hk; omega
    have hb2 : ∀ k : Nat, k < S.2.2.1.1 → S.2.2.1.2.2.1 k ≤ 200 := fun k hk => by have h1 := hwb k hk; omega
    refine lv_aload_n hx hb dX4_split_0 rfl (lv_at hl 0 rfl) ?_
    refine lv_iload_n hx hb dX4_split_1 rfl (lv_at hl 1 rfl) ?_
    refine xv_q (i := 0) (As := [.int (xI z1)]) (rest := []) ⟨hx, hb, hml, hown, hts⟩ hl.1 (c_X4_textOf_out l D cA n ad en (by omega) hC z1 (by omega) (by omega)) k_X4_textOf u_ml_RX4_97 hK hN hP (by omega) hC.1 rfl rfl rfl rfl (Nat.le_of_ble_eq_true rfl) ⟨Nat.le_of_ble_eq_true rfl, Nat.le_of_ble_eq_true rfl⟩ ⟨Nat.le_of_ble_eq_true rfl, Nat.le_of_ble_eq_true rfl⟩ dX4_split_2 ?_
    refine lv_astoreN (lv' := [(4, .null), (0, .ref (ad 0)), (1, .int (xI z1)), (2, .int (xI z2)), (3, .int (xI z3))]) hx hb dX4_split_5 hl (by decide) rfl (fun ls hl => ?_)
    refine lv_aloadN hx hb dX4_split_7 (lv_at hl 0 rfl) ?_
    refine lv_ifnonnullN hx hb dX4_split_9 ?_
    refine x_sipush hx hb dX4_split_12 (by decide +kernel) ?_
    exact xe_i hx hb hrt hlocks hP hS ((by unfold am_split; rw [sp_if_t (by omega)]; exact ⟨rfl, hC, xO.rf⟩)) dX4_split_15

set_option maxRecDepth 20000 in
theorem c_X4_parts (l : Launch) (D : va_G) (cA : Nat → ClassId) (n : Nat) (ad : Nat → Nat) (en : Nat → va_E) (hn : 53 ≤ n) {S : xSt} (hC : CW cA ad en S) : Met l yX4_parts (Cond.code yX4_parts cX4_parts 1 (some .int) :: xU) (xrm 0 0) (va_Pc [.ref (ad 0)] (xB D cA n ad en)) (vp_Si (fun z => z = xI (am_parts S))) 0 0 (fun _ => False) := by
  refine xmet (by decide) (Nat.le_of_ble_eq_true rfl) (fun p e s mm args below meth c ls hx hb hrt hml hown hts hlocks hname hB hl => ?_)
  obtain ⟨hP, hK, hN⟩ := hB
  have hl : lv_has ls 1 [(0, .ref (ad 0))] := hl
  have hXP := hC.rp
  have hp0 := hXP.to0
  obtain ⟨wn, hw, hwb⟩ := hXP.2.1
  have hwm := hw.2.2.1
  have hPn := hXP.2.2.2.2.1
  have hb1 : ∀ k : Nat, k < S.2.2.1.1 → S.2.2.1.2.1 k ≤ 200 := fun k hk => by have h1 := hwb k hk; have h2 := hXP.2.2.2.2.2.1 k hk; omega
  have hb2 : ∀ k : Nat, k < S.2.2.1.1 → S.2.2.1.2.2.1 k ≤ 200 := fun k hk => by have h1 := hwb k hk; omega
  refine lv_aload_n hx hb dX4_parts_0 rfl (lv_at hl 0 rfl) ?_
  refine x_get (T := TX4) (N := 6) hx hb hts uX4 hown hK hP (i := 0) (by omega) hC.1 rfl 3 (by decide) u_fl_RX4_30 rfl dX4_parts_1 ?_
  refine x_getn (T := TX1) (N := 4) hx hb hts uX1 hown hN hK hP (i := 4) (by omega) hp0.1 rfl 3 (by decide) (by simp only [xNest, List.mem_cons]; exact Or.inr (Or.inr (Or.inr (Or.inr (Or.inl rfl))))) rfl dX4_parts_4 ?_
  exact xr_i hx hb hrt hlocks (by unfold am_parts; rfl) dX4_parts_7

set_option maxRecDepth 20000 in
theorem c_X4_partTo (l : Launch) (D : va_G) (cA : Nat → ClassId) (n : Nat) (ad : Nat → Nat) (en : Nat → va_E) (sz : Nat) (hn : 53 ≤ n) {S : xSt} (hC : CW cA ad en S) (z1 : Int) (hz1 : -2147483648 ≤ z1 ∧ z1 ≤ 2147483647) (z2 : Int) (hz2 : -2147483648 ≤ z2 ∧ z2 ≤ 2147483647) : Met l yX4_partTo (Cond.code yX4_partTo cX4_partTo 4 (some .int) :: xU) (xrm 3 73) (va_Pc [.ref (ad 0), .int (xI z1), .int (xI z2)] (xM D cA n ad en sz)) (va_Qi (fun r u => r = xI (am_partTo S z1 z2).1 ∧ CW cA ad u (am_partTo S z1 z2).2 ∧ xO 0 53 en u) (xE D n ad) (xA n ad sz)) 0 0 (xA n ad sz) := by
  refine xmet (by decide) (Nat.le_of_ble_eq_true rfl) (fun p e s mm args below meth c ls hx hb hrt hml hown hts hlocks hname hB hl => ?_)
  obtain ⟨⟨hP, hK, hN⟩, hsz, hDt⟩ := hB
  have hD : xD (xA n ad sz) n ad := xD_self hDt sz
  have hA : ∀ q : Nat, s.heap.size ≤ q → xA n ad sz q := fun q h => Or.inr (by rw [← hsz]; exact h)
  have hS : va_S (xA n ad sz) s.heap s.heap [] := va_S.rf
  have hown : s.vm.findClass RX4 = some mm.cls := hown
  have hl : lv_has ls 4 [(0, .ref (ad 0)), (1, .int (xI z1)), (2, .int (xI z2))] := hl
  rcases Classical.em (0 ≤ z2 ∧ z2 < 8) with hx_z2 | hx_z2
  · obtain ⟨t2, rfl⟩ : ∃ q : Nat, z2 = (q : Int) := ⟨z2.toNat, by omega⟩
    have h_t2 : t2 < 8 := by omega
    have hT_t2 : XT cA ad en (21 + 3 * t2) (S.2.1 t2) := hC.rt h_t2
    obtain ⟨zm_t2, tm_t2, tf_t2, hO_t2, hr_t2⟩ := hT_t2.any
    have hXP := hC.rp
    have hp0 := hXP.to0
    obtain ⟨wn, hw, hwb⟩ := hXP.2.1
    have hwm := hw.2.2.1
    have hPn := hXP.2.2.2.2.1
    have hb1 : ∀ k : Nat, k < S.2.2.1.1 → S.2.2.1.2.1 k ≤ 200 := fun k hk => by have h1 := hwb k hk; have h2 := hXP.2.2.2.2.2.1 k hk; omega
    have hb2 : ∀ k : Nat, k < S.2.2.1.1 → S.2.2.1.2.2.1 k ≤ 200 := fun k hk => by have h1 := hwb k hk; omega
    refine lv_aload_n hx hb dX4_partTo_0 rfl (lv_at hl 0 rfl) ?_
    refine lv_iload_n hx hb dX4_partTo_1 rfl (lv_at hl 2 rfl) ?_
    refine xv_q (i := 0) (As := [.int (xI (t2 : Int))]) (rest := []) ⟨hx, hb, hml, hown, hts⟩ hl.1 (c_X4_textOf_in l D cA n ad en (by omega) hC t2 (by omega)) k_X4_textOf u_ml_RX4_97 hK hN hP (by omega) hC.1 rfl rfl rfl rfl (Nat.le_of_ble_eq_true rfl) ⟨Nat.le_of_ble_eq_true rfl, Nat.le_of_ble_eq_true rfl⟩ ⟨Nat.le_of_ble_eq_true rfl, Nat.le_of_ble_eq_true rfl⟩ dX4_partTo_2 ?_
    refine lv_astore_n (lv' := [(3, .ref (ad (21 + 3 * t2))), (0, .ref (ad 0)), (1, .int (xI z1)), (2, .int (xI (t2 : Int)))]) hx hb dX4_partTo_5 rfl hl (by decide) rfl (fun ls hl => ?_)
    refine lv_aload_n hx hb dX4_partTo_6 rfl (lv_at hl 0 rfl) ?_
    refine lv_ifnonnull (tgt := 14) hx hb dX4_partTo_7 (by decide) ?_
    refine lv_aload_n hx hb dX4_partTo_14 rfl (lv_at hl 1 rfl) ?_
    refine x_get (T := TX4) (N := 6) hx hb hts uX4 hown hK hP (i := 0) (by omega) hC.1 rfl 3 (by decide) u_fl_RX4_30 rfl dX4_partTo_15 ?_
    refine lv_iload_n hx hb dX4_partTo_18 rfl (lv_at hl 2 rfl) ?_
    refine xv_i (i := 4) (As := [.int (xI z1)]) (rest := []) ⟨hx, hb, hml, hown, hts⟩ hl.1 (c_X1_has l D cA n ad en (by omega) hp0 z1 (by omega)) k_X1_has u_ml_RX4_184 hK hN hP (by omega) hp0.1 rfl rfl rfl rfl (Nat.le_of_ble_eq_true rfl) ⟨Nat.le_of_ble_eq_true rfl, Nat.le_of_ble_eq_true rfl⟩ ⟨Nat.le_of_ble_eq_true rfl, Nat.le_of_ble_eq_true rfl⟩ dX4_partTo_19 ?_
    refine x_ifb_ne (tgt := 27) hx hb dX4_partTo_22 (by decide)  (fun c_22 => ?_) (fun c_22 => ?_)
    · have hb3 := hXP.2.2.2.2.2.1 z1.toNat (by omega)
      have hb4 := hwb z1.toNat (by omega)
      refine lv_aload_n hx hb dX4_partTo_27 rfl (lv_at hl 0 rfl) ?_
      refine lv_aload_n hx hb dX4_partTo_28 rfl (lv_at hl 1 rfl) ?_
      refine x_get (T := TX4) (N := 6) hx hb hts uX4 hown hK hP (i := 0) (by omega) hC.1 rfl 3 (by decide) u_fl_RX4_30 rfl dX4_partTo_29 ?_
      refine x_getn (T := TX1) (N := 4) hx hb hts uX1 hown hN hK hP (i := 4) (by omega) hp0.1 rfl 0 (by decide) (by simp only [xNest, List.mem_cons]; exact Or.inr (Or.inr (Or.inr (Or.inl rfl)))) rfl dX4_partTo_32 ?_
      refine lv_aload_n hx hb dX4_partTo_35 rfl (lv_at hl 1 rfl) ?_
      refine x_get (T := TX4) (N := 6) hx hb hts uX4 hown hK hP (i := 0) (by omega) hC.1 rfl 3 (by decide) u_fl_RX4_30 rfl dX4_partTo_36 ?_
      refine lv_iload_n hx hb dX4_partTo_39 rfl (lv_at hl 2 rfl) ?_
      refine xv_i (i := 4) (As := [.int (xI z1)]) (rest := [.ref (ad 5), .ref (ad (21 + 3 * t2))]) ⟨hx, hb, hml, hown, hts⟩ hl.1 (c_X1_start l D cA n ad en (by omega) hp0 hb1 z1 (by omega)) k_X1_start u_ml_RX4_190 hK hN hP (by omega) hp0.1 rfl rfl rfl rfl (Nat.le_of_ble_eq_true rfl) ⟨Nat.le_of_ble_eq_true rfl, Nat.le_of_ble_eq_true rfl⟩ ⟨Nat.le_of_ble_eq_true rfl, Nat.le_of_ble_eq_true rfl⟩ dX4_partTo_40 ?_
      refine lv_aload_n hx hb dX4_partTo_43 rfl (lv_at hl 1 rfl) ?_
      refine x_get (T := TX4) (N := 6) hx hb hts uX4 hown hK hP (i := 0) (by omega) hC.1 rfl 3 (by decide) u_fl_RX4_30 rfl dX4_partTo_44 ?_
      refine lv_iload_n hx hb dX4_partTo_47 rfl (lv_at hl 2 rfl) ?_
      refine xv_i (i := 4) (As := [.int (xI z1)]) (rest := [.int (xI ((S.2.2.1.2.1 (Int.toNat z1) : Nat) : Int)), .ref (ad 5), .ref (ad (21 + 3 * t2))]) ⟨hx, hb, hml, hown, hts⟩ hl.1 (c_X1_end l D cA n ad en (by omega) hp0 hb2 z1 (by omega)) k_X1_end u_ml_RX4_193 hK hN hP (by omega) hp0.1 rfl rfl rfl rfl (Nat.le_of_ble_eq_true rfl) ⟨Nat.le_of_ble_eq_true rfl, Nat.le_of_ble_eq_true rfl⟩ ⟨Nat.le_of_ble_eq_true rfl, Nat.le_of_ble_eq_true rfl⟩ dX4_partTo_48 ?_
      refine xm_i (i := 21 + 3 * t2) (As := [.ref (ad 5), .int (xI ((S.2.2.1.2.1 (Int.toNat z1) : Nat) : Int)), .int (xI ((S.2.2.1.2.2.1 (Int.toNat z1) : Nat) : Int))]) (rest := []) ⟨hx, hb, hml, hown, hts⟩ hl.1 (c_X3_become l D cA n ad en _ (by omega) hT_t2 (by omega) hw (by omega) ((S.2.2.1.2.1 (Int.toNat z1) : Nat) : Int) ((S.2.2.1.2.2.1 (Int.toNat z1) : Nat) : Int) (by omega) (by omega)) k_X3_become u_ml_RX4_129 hK hN hP (by omega) hO_t2 rfl rfl rfl rfl (Nat.le_of_ble_eq_true rfl) ⟨Nat.le_of_ble_eq_true rfl, Nat.le_of_ble_eq_true rfl⟩ ⟨Nat.le_of_ble_eq_true rfl, Nat.le_of_ble_eq_true rfl⟩ dX4_partTo_51 hD hS hA (fun r1 en1 H locs hp1 hP hS => ?_)
      rcases hp1 with ⟨hsp, hrv, hx1, hoc⟩ | ⟨hsp, hrv, hu⟩
      · subst hrv
        have hC9 := hC.text h_t2 (hoc.mo (by omega) (by omega)) hx1
        have ho : xO 0 53 en en1 := hoc.mo (by omega) (by omega)
        exact xe_i hx hb hrt hlocks hP hS ((by unfold am_partTo; simp only [Int.toNat_natCast]; rw [sp_if_f (by omega), sp_if_f (by omega)]; exact ⟨rfl, CW_eqt hC9 (by omega) (fun t _ => by rw [Int.toNat_natCast]), ho⟩)) dX4_partTo_54
      · exact absurd (by omega) hsp
    · refine x_iconst hx hb dX4_partTo_25 ?_
      exact xe_i hx hb hrt hlocks hP hS ((by unfold am_partTo; simp only [Int.toNat_natCast]; rw [sp_if_f (by omega), sp_if_t (by omega)]; exact ⟨rfl, hC, xO.rf⟩)) dX4_partTo_26
  · have hXP := hC.rp
    have hp0 := hXP.to0
    obtain ⟨wn, hw, hwb⟩ := hXP.2.1
    have hwm := hw.2.2.1
    have hPn := hXP.2.2.2.2.1
    have hb1 : ∀ k : Nat, k < S.2.2.1.1 → S.2.2.1.2.1 k ≤ 200 := fun k hk => by have h1 := hwb k hk; have h2 := hXP.2.2.2.2.2.1 k hk; omega
    have hb2 : ∀ k : Nat, k < S.2.2.1.1 → S.2.2.1.2.2.1 k ≤ 200 := fun k hk => by have h1 := hwb k hk; omega
    refine lv_aload_n hx hb dX4_partTo_0 rfl (lv_at hl 0 rfl) ?_
    refine lv_iload_n hx hb dX4_partTo_1 rfl (lv_at hl 2 rfl) ?_
    refine xv_q (i := 0) (As := [.int (xI z2)]) (rest := []) ⟨hx, hb, hml, hown, hts⟩ hl.1 (c_X4_textOf_out l D cA n ad en (by omega) hC z2 (by omega) (by omega)) k_X4_textOf u_ml_RX4_97 hK hN hP (by omega) hC.1 rfl rfl rfl rfl (Nat.le_of_ble_eq_true rfl) ⟨Nat.le_of_ble_eq_true rfl, Nat.le_of_ble_eq_true rfl⟩ ⟨Nat.le_of_ble_eq_true rfl, Nat.le_of_ble_eq_true rfl⟩ dX4_partTo_2 ?_
    refine lv_astore_nN (lv' := [(3, .null), (0, .ref (ad 0)), (1, .int (xI z1)), (2, .int (xI z2))]) hx hb dX4_partTo_5 rfl hl (by decide) rfl (fun ls hl => ?_)
    refine lv_aload_nN hx hb dX4_partTo_6 rfl (lv_at hl 0 rfl) ?_
    refine lv_ifnonnullN hx hb dX4_partTo_7 ?_
    refine x_sipush hx hb dX4_partTo_10 (by decide +kernel) ?_
    exact xe_i hx hb hrt hlocks hP hS ((by unfold am_partTo; rw [sp_if_t (by omega)]; exact ⟨rfl, hC, xO.rf⟩)) dX4_partTo_13

theorem sp_jh_0 {r : xRow} {z : Int} {k : Nat} (h : ¬ 0 < k) : sp_jh r z k = r := if_neg h
theorem sp_jh_s {r : xRow} {z : Int} {k : Nat} (h : 0 < k) : sp_jh r z k = (r.1 + 1, sp_up r.2 r.1 z) := if_pos h
theorem sp_jn_l {P : xPts} {z : Int} (h0 : 0 < P.1 → P.2.1 0 = 0) (h1 : ∀ k : Nat, k < P.1 → P.2.1 k ≤ P.2.2.1 k) (h2 : ∀ k : Nat, k + 1 < P.1 → P.2.1 (k + 1) = P.2.2.1 k + 1) : ∀ k : Nat, k < P.1 → (sp_jh (sp_jn P z k) z k).1 = P.2.1 k := by
  intro k
  induction k with
  | zero => intro h; rw [sp_jh_0 (Nat.lt_irrefl 0)]; exact (h0 h).symm
  | succ k ih =>
    intro h
    have h3 := ih (by omega)
    have h4 := h1 k (by omega)
    have h5 := h2 k h
    rw [sp_jh_s (Nat.succ_pos k)]
    show (sp_jh (sp_jn P z k) z k).1 + (P.2.2.1 k - P.2.1 k) + 1 = _
    omega

set_option maxRecDepth 20000 in
theorem c_X4_joined (l : Launch) (D : va_G) (cA : Nat → ClassId) (n : Nat) (ad : Nat → Nat) (en : Nat → va_E) (sz : Nat) (hn : 53 ≤ n) {S : xSt} (hC : CW cA ad en S) (z1 : Int) (hz1 : -2147483648 ≤ z1 ∧ z1 ≤ 2147483647) (z2 : Int) (hz2 : -2147483648 ≤ z2 ∧ z2 ≤ 2147483647) : Met l yX4_joined (Cond.code yX4_joined cX4_joined 6 (some .int) :: xU) (xrm 3 73) (va_Pc [.ref (ad 0), .int (xI z1), .int (xI z2)] (xM D cA n ad en sz)) (va_Qi (fun r u => r = xI (am_joined S z1 z2).1 ∧ CW cA ad u (am_joined S z1 z2).2 ∧ xO 0 53 en u) (xE D n ad) (xA n ad sz)) 0 0 (xA n ad sz) := by
  refine xmet (by decide) (Nat.le_of_ble_eq_true rfl) (fun p e s mm args below meth c ls hx hb hrt hml hown hts hlocks hname hB hl => ?_)
  obtain ⟨⟨hP, hK, hN⟩, hsz, hDt⟩ := hB
  have hD : xD (xA n ad sz) n ad := xD_self hDt sz
  have hA : ∀ q : Nat, s.heap.size ≤ q → xA n ad sz q := fun q h => Or.inr (by rw [← hsz]; exact h)
  have hS : va_S (xA n ad sz) s.heap s.heap [] := va_S.rf
  have hown : s.vm.findClass RX4 = some mm.cls := hown
  have hl : lv_has ls 6 [(0, .ref (ad 0)), (1, .int (xI z1)), (2, .int (xI z2))] := hl
  rcases Classical.em (0 ≤ z2 ∧ z2 < 8) with hx_z2 | hx_z2
  · obtain ⟨t2, rfl⟩ : ∃ q : Nat, z2 = (q : Int) := ⟨z2.toNat, by omega⟩
    have h_t2 : t2 < 8 := by omega
    have hT_t2 : XT cA ad en (21 + 3 * t2) (S.2.1 t2) := hC.rt h_t2
    obtain ⟨zm_t2, tm_t2, tf_t2, hO_t2, hr_t2⟩ := hT_t2.any
    have hXP := hC.rp
    have hp0 := hXP.to0
    obtain ⟨wn, hw, hwb⟩ := hXP.2.1
    have hwm := hw.2.2.1
    have hPn := hXP.2.2.2.2.1
    have hb1 : ∀ k : Nat, k < S.2.2.1.1 → S.2.2.1.2.1 k ≤ 200 := fun k hk => by have h1 := hwb k hk; have h2 := hXP.2.2.2.2.2.1 k hk; omega
    have hb2 : ∀ k : Nat, k < S.2.2.1.1 → S.2.2.1.2.2.1 k ≤ 200 := fun k hk => by have h1 := hwb k hk; omega
    refine lv_aload_n hx hb dX4_joined_0 rfl (lv_at hl 0 rfl) ?_
    refine lv_iload_n hx hb dX4_joined_1 rfl (lv_at hl 2 rfl) ?_
    refine xv_q (i := 0) (As := [.int (xI (t2 : Int))]) (rest := []) ⟨hx, hb, hml, hown, hts⟩ hl.1 (c_X4_textOf_in l D cA n ad en (by omega) hC t2 (by omega)) k_X4_textOf u_ml_RX4_97 hK hN hP (by omega) hC.1 rfl rfl rfl rfl (Nat.le_of_ble_eq_true rfl) ⟨Nat.le_of_ble_eq_true rfl, Nat.le_of_ble_eq_true rfl⟩ ⟨Nat.le_of_ble_eq_true rfl, Nat.le_of_ble_eq_true rfl⟩ dX4_joined_2 ?_
    refine lv_astore_n (lv' := [(3, .ref (ad (21 + 3 * t2))), (0, .ref (ad 0)), (1, .int (xI z1)), (2, .int (xI (t2 : Int)))]) hx hb dX4_joined_5 rfl hl (by decide) rfl (fun ls hl => ?_)
    refine lv_aload_n hx hb dX4_joined_6 rfl (lv_at hl 0 rfl) ?_
    refine lv_ifnonnull (tgt := 14) hx hb dX4_joined_7 (by decide) ?_
    refine lv_iload_n hx hb dX4_joined_14 rfl (lv_at hl 2 rfl) ?_
    refine xt_i (As := [.int (xI z1)]) (rest := []) ⟨hx, hb, hml, hown, hts⟩ hl.1 (c_X4_isSign l z1 (by omega)) k_X4_isSign u_ml_RX4_56 rfl rfl (Nat.le_of_ble_eq_true rfl) ⟨Nat.le_of_ble_eq_true rfl, Nat.le_of_ble_eq_true rfl⟩ ⟨Nat.le_of_ble_eq_true rfl, Nat.le_of_ble_eq_true rfl⟩ dX4_joined_15 ?_
    refine x_ifb_ne (tgt := 25) hx hb dX4_joined_18 (by decide)  (fun c_18 => ?_) (fun c_18 => ?_)
    · refine lv_aload_n hx hb dX4_joined_25 rfl (lv_at hl 1 rfl) ?_
      obtain ⟨m0, f0, hr0⟩ := hC.rs
      refine xm_q (i := 0) (As := []) (rest := []) ⟨hx, hb, hml, hown, hts⟩ hl.1 (c_X4_nothing l D cA n ad en _ (by omega) hC hr0) k_X4_nothing u_ml_RX4_86 hK hN hP (by omega) hC.1 rfl rfl rfl rfl (Nat.le_of_ble_eq_true rfl) ⟨Nat.le_of_ble_eq_true rfl, Nat.le_of_ble_eq_true rfl⟩ ⟨Nat.le_of_ble_eq_true rfl, Nat.le_of_ble_eq_true rfl⟩ dX4_joined_26 hD hS hA (fun r1 en1 H locs hp1 hP hS => ?_)
      obtain ⟨hr9, hrs, hos⟩ := hp1
      subst hr9
      have hC := hC.spare hos hrs
      have ho : xO 0 53 en en1 := hos.mo (by omega) (by omega)
      have hT_t2 : XT cA ad en1 (21 + 3 * t2) (S.2.1 t2) := hC.rt h_t2
      obtain ⟨zm_t2, tm_t2, tf_t2, hO_t2, hr_t2⟩ := hT_t2.any
      have hXP := hC.rp
      have hp0 := hXP.to0
      obtain ⟨wn, hw, hwb⟩ := hXP.2.1
      have hwm := hw.2.2.1
      have hPn := hXP.2.2.2.2.1
      have hb1 : ∀ k : Nat, k < S.2.2.1.1 → S.2.2.1.2.1 k ≤ 200 := fun k hk => by have h1 := hwb k hk; have h2 := hXP.2.2.2.2.2.1 k hk; omega
      have hb2 : ∀ k : Nat, k < S.2.2.1.1 → S.2.2.1.2.2.1 k ≤ 200 := fun k hk => by have h1 := hwb k hk; omega
      refine lv_astore (lv' := [(4, .ref (ad 11)), (3, .ref (ad (21 + 3 * t2))), (0, .ref (ad 0)), (1, .int (xI z1)), (2, .int (xI (t2 : Int)))]) hx hb dX4_joined_29 hl (by decide) rfl (fun ls hl => ?_)
      refine x_iconst hx hb dX4_joined_31 ?_
      refine lv_istore (lv' := [(5, .int (xI 0)), (4, .ref (ad 11)), (3, .ref (ad (21 + 3 * t2))), (0, .ref (ad 0)), (1, .int (xI z1)), (2, .int (xI (t2 : Int)))]) hx hb dX4_joined_32 hl (by decide) rfl (fun ls hl => ?_)
      have L34 : ∀ (nn : Nat) (K : Nat) (ew34 : Nat → va_E) (H : Heap) (locs : List Loc), (K ≤ S.2.2.1.1) → (S.2.2.1.1 - K) < nn → (CW cA ad ew34 S) → (XR cA ad ew34 11 (sp_jn S.2.2.1 z1 K).1 (sp_jn S.2.2.1 z1 K).2) → (xO 0 53 en ew34) → va_P D vwCl (xw n ad ew34) H → va_S (xA n ad sz) s.heap H locs → ∀ ls : Array Slot, lv_has ls 6 [(0, .ref (ad 0)), (1, .int (xI z1)), (3, .ref (ad (21 + 3 * t2))), (4, .ref (ad 11)), (5, .int (xI (K : Int)))] → W p l e (xrm 3 73) s mm args below meth c H locs 0 0 (MQ below (va_Qi (fun r u => r = xI (am_joined S z1 (t2 : Int)).1 ∧ CW cA ad u (am_joined S z1 (t2 : Int)).2 ∧ xO 0 53 en u) (xE D n ad) (xA n ad sz)) args s 0 0 (xA n ad sz)) (F0 mm 34 ls []) := by
        intro nn
        induction nn with
        | zero =>
          intro K ew34 H locs hk9 hmm hC hrs ho hP hS ls hl
          exact absurd hmm (Nat.not_lt_zero _)
        | succ nn ih =>
          intro K ew34 H locs hk9 hmm hC hrs ho hP hS ls hl
          have hjm := hrs.2.2.1
          have hT_t2 : XT cA ad ew34 (21 + 3 * t2) (S.2.1 t2) := hC.rt h_t2
          obtain ⟨zm_t2, tm_t2, tf_t2, hO_t2, hr_t2⟩ := hT_t2.any
          have hXP := hC.rp
          have hp0 := hXP.to0
          obtain ⟨wn, hw, hwb⟩ := hXP.2.1
          have hwm := hw.2.2.1
          have hPn := hXP.2.2.2.2.1
          have hb1 : ∀ k : Nat, k < S.2.2.1.1 → S.2.2.1.2.1 k ≤ 200 := fun k hk => by have h1 := hwb k hk; have h2 := hXP.2.2.2.2.2.1 k hk; omega
          have hb2 : ∀ k : Nat, k < S.2.2.1.1 → S.2.2.1.2.2.1 k ≤ 200 := fun k hk => by have h1 := hwb k hk; omega
          refine lv_iload hx hb dX4_joined_34 (lv_at hl 4 rfl) ?_
          refine lv_aload_n hx hb dX4_joined_36 rfl (lv_at hl 0 rfl) ?_
          refine x_get (T := TX4) (N := 6) hx hb hts uX4 hown hK hP (i := 0) (by omega) hC.1 rfl 3 (by decide) u_fl_RX4_30 rfl dX4_joined_37 ?_
          refine x_getn (T := TX1) (N := 4) hx hb hts uX1 hown hN hK hP (i := 4) (by omega) hp0.1 rfl 3 (by decide) (by simp only [xNest, List.mem_cons]; exact Or.inr (Or.inr (Or.inr (Or.inr (Or.inl rfl))))) rfl dX4_joined_40 ?_
          refine x_icmp_ge (tgt := 104) hx hb dX4_joined_43 (by decide) (by omega) (fun c_43 => ?_) (fun c_43 => ?_)
          · have hke : K = S.2.2.1.1 := by omega
            refine lv_aload_n hx hb dX4_joined_104 rfl (lv_at hl 2 rfl) ?_
            refine lv_aload hx hb dX4_joined_105 (lv_at hl 3 rfl) ?_
            refine x_iconst hx hb dX4_joined_107 ?_
            refine lv_aload hx hb dX4_joined_108 (lv_at hl 3 rfl) ?_
            refine x_getn (T := TX2) (N := 2) hx hb hts uX2 hown hN hK hP (i := 11) (by omega) hrs.1 rfl 1 (by decide) (by simp only [xNest, List.mem_cons]; exact Or.inr (Or.inl rfl)) rfl dX4_joined_110 ?_
            refine xm_i (i := 21 + 3 * t2) (As := [.ref (ad 11), .int (xI 0), .int (xI ((sp_jn S.2.2.1 z1 K).1 : Int))]) (rest := []) ⟨hx, hb, hml, hown, hts⟩ hl.1 (c_X3_become l D cA n ad ew34 _ (by omega) hT_t2 (by omega) hrs (by omega) 0 ((sp_jn S.2.2.1 z1 K).1 : Int) (by omega) (by omega)) k_X3_become u_ml_RX4_129 hK hN hP (by omega) hO_t2 rfl rfl rfl rfl (Nat.le_of_ble_eq_true rfl) ⟨Nat.le_of_ble_eq_true rfl, Nat.le_of_ble_eq_true rfl⟩ ⟨Nat.le_of_ble_eq_true rfl, Nat.le_of_ble_eq_true rfl⟩ dX4_joined_113 hD hS hA (fun r2 en2 H locs hp2 hP hS => ?_)
            rcases hp2 with ⟨hsp, hrv, hx1, hoc⟩ | ⟨hsp, hrv, hu⟩
            · subst hrv
              have hC9 := hC.text h_t2 (hoc.mo (by omega) (by omega)) hx1
              have ho : xO 0 53 en en2 := ho.tr (hoc.mo (by omega) (by omega))
              exact xe_i hx hb hrt hlocks hP hS ((by unfold am_joined; simp only [Int.toNat_natCast]; rw [sp_if_f (by omega), sp_if_f (by omega)]; rw [← hke]; exact ⟨congrArg xI (by omega), CW_eqt hC9 (by omega) (fun t _ => by simp only [show Int.toNat 0 + t = t from Nat.zero_add t]), ho⟩)) dX4_joined_116
            · exact absurd (by omega) hsp
          · have hkk : K < S.2.2.1.1 := by omega
            have hj1 := sp_jn_l (z := z1) hXP.2.2.2.2.2.2.1 hXP.2.2.2.2.2.1 hXP.2.2.2.2.2.2.2 K hkk
            have hj3 := hXP.2.2.2.2.2.1 K hkk
            have hj4 := hwb K hkk
            refine lv_iload hx hb dX4_joined_46 (lv_at hl 4 rfl) ?_
            refine x_if_le (tgt := 57) hx hb dX4_joined_48 (by decide) (by omega) (fun c_48 => ?_) (fun c_48 => ?_)
            · have hrs : XR cA ad ew34 11 (sp_jh (sp_jn S.2.2.1 z1 K) z1 K).1 (sp_jh (sp_jn S.2.2.1 z1 K) z1 K).2 := by rw [sp_jh_0 (by omega)]; exact hrs
              refine lv_aload hx hb dX4_joined_57 (lv_at hl 3 rfl) ?_
              refine lv_aload hx hb dX4_joined_59 (lv_at hl 3 rfl) ?_
              refine x_getn (T := TX2) (N := 2) hx hb hts uX2 hown hN hK hP (i := 11) (by omega) hrs.1 rfl 1 (by decide) (by simp only [xNest, List.mem_cons]; exact Or.inr (Or.inl rfl)) rfl dX4_joined_61 ?_
              refine lv_aload hx hb dX4_joined_64 (lv_at hl 3 rfl) ?_
              refine x_getn (T := TX2) (N := 2) hx hb hts uX2 hown hN hK hP (i := 11) (by omega) hrs.1 rfl 1 (by decide) (by simp only [xNest, List.mem_cons]; exact Or.inr (Or.inl rfl)) rfl dX4_joined_66 ?_
              refine lv_aload_n hx hb dX4_joined_69 rfl (lv_at hl 0 rfl) ?_
              refine x_get (T := TX4) (N := 6) hx hb hts uX4 hown hK hP (i := 0) (by omega) hC.1 rfl 3 (by decide) u_fl_RX4_30 rfl dX4_joined_70 ?_
              refine x_getn (T := TX1) (N := 4) hx hb hts uX1 hown hN hK hP (i := 4) (by omega) hp0.1 rfl 0 (by decide) (by simp only [xNest, List.mem_cons]; exact Or.inr (Or.inr (Or.inr (Or.inl rfl)))) rfl dX4_joined_73 ?_
              refine lv_aload_n hx hb dX4_joined_76 rfl (lv_at hl 0 rfl) ?_
              refine x_get (T := TX4) (N := 6) hx hb hts uX4 hown hK hP (i := 0) (by omega) hC.1 rfl 3 (by decide) u_fl_RX4_30 rfl dX4_joined_77 ?_
              refine lv_iload hx hb dX4_joined_80 (lv_at hl 4 rfl) ?_
              refine xv_i (i := 4) (As := [.int (xI (K : Int))]) (rest := [.ref (ad 5), .int (xI ((sp_jh (sp_jn S.2.2.1 z1 K) z1 K).1 : Int)), .int (xI ((sp_jh (sp_jn S.2.2.1 z1 K) z1 K).1 : Int)), .ref (ad 11)]) ⟨hx, hb, hml, hown, hts⟩ hl.1 (c_X1_start l D cA n ad ew34 (by omega) hp0 hb1 (K : Int) (by omega)) k_X1_start u_ml_RX4_190 hK hN hP (by omega) hp0.1 rfl rfl rfl rfl (Nat.le_of_ble_eq_true rfl) ⟨Nat.le_of_ble_eq_true rfl, Nat.le_of_ble_eq_true rfl⟩ ⟨Nat.le_of_ble_eq_true rfl, Nat.le_of_ble_eq_true rfl⟩ dX4_joined_82 ?_
              refine x_to (((S.2.2.1.2.1 K : Nat) : Int)) (by rw [Int.toNat_natCast]) ?_
              refine lv_aload_n hx hb dX4_joined_85 rfl (lv_at hl 0 rfl) ?_
              refine x_get (T := TX4) (N := 6) hx hb hts uX4 hown hK hP (i := 0) (by omega) hC.1 rfl 3 (by decide) u_fl_RX4_30 rfl dX4_joined_86 ?_
              refine lv_iload hx hb dX4_joined_89 (lv_at hl 4 rfl) ?_
              refine xv_i (i := 4) (As := [.int (xI (K : Int))]) (rest := [.int (xI ((S.2.2.1.2.1 K : Nat) : Int)), .ref (ad 5), .int (xI ((sp_jh (sp_jn S.2.2.1 z1 K) z1 K).1 : Int)), .int (xI ((sp_jh (sp_jn S.2.2.1 z1 K) z1 K).1 : Int)), .ref (ad 11)]) ⟨hx, hb, hml, hown, hts⟩ hl.1 (c_X1_end l D cA n ad ew34 (by omega) hp0 hb2 (K : Int) (by omega)) k_X1_end u_ml_RX4_193 hK hN hP (by omega) hp0.1 rfl rfl rfl rfl (Nat.le_of_ble_eq_true rfl) ⟨Nat.le_of_ble_eq_true rfl, Nat.le_of_ble_eq_true rfl⟩ ⟨Nat.le_of_ble_eq_true rfl, Nat.le_of_ble_eq_true rfl⟩ dX4_joined_91 ?_
              refine x_to (((S.2.2.1.2.2.1 K : Nat) : Int)) (by rw [Int.toNat_natCast]) ?_
              refine xm_i (i := 11) (As := [.int (xI ((sp_jh (sp_jn S.2.2.1 z1 K) z1 K).1 : Int)), .int (xI ((sp_jh (sp_jn S.2.2.1 z1 K) z1 K).1 : Int)), .ref (ad 5), .int (xI ((S.2.2.1.2.1 K : Nat) : Int)), .int (xI ((S.2.2.1.2.2.1 K : Nat) : Int))]) (rest := []) ⟨hx, hb, hml, hown, hts⟩ hl.1 (c_X2_change l D cA n ad ew34 _ (by omega) hrs (by omega) hw (by omega) ((sp_jh (sp_jn S.2.2.1 z1 K) z1 K).1 : Int) ((sp_jh (sp_jn S.2.2.1 z1 K) z1 K).1 : Int) ((S.2.2.1.2.1 K : Nat) : Int) ((S.2.2.1.2.2.1 K : Nat) : Int) (by omega) (by omega) (by omega) (by omega)) k_X2_change u_ml_RX4_78 hK hN hP (by omega) hrs.1 rfl rfl rfl rfl (Nat.le_of_ble_eq_true rfl) ⟨Nat.le_of_ble_eq_true rfl, Nat.le_of_ble_eq_true rfl⟩ ⟨Nat.le_of_ble_eq_true rfl, Nat.le_of_ble_eq_true rfl⟩ dX4_joined_94 hD hS hA (fun r3 en3 H locs hp3 hP hS => ?_)
              rcases hp3 with hbad | hbad | ⟨-, -, hrv, hx1, hos⟩
              · exact absurd ⟨⟨by omega, by omega, by omega⟩, by omega, by omega, by omega⟩ hbad.1
              · exact absurd hbad.2.1 (by omega)
              · have hrs : XR cA ad en3 11 (sp_jn S.2.2.1 z1 (K + 1)).1 (sp_jn S.2.2.1 z1 (K + 1)).2 := hx1.to (by show _ = (sp_jh (sp_jn S.2.2.1 z1 K) z1 K).1 + (S.2.2.1.2.2.1 K - S.2.2.1.2.1 K); omega) (fun t ht => by
                  show sp_ed _ _ _ _ _ _ t = if t < (sp_jh (sp_jn S.2.2.1 z1 K) z1 K).1 then (sp_jh (sp_jn S.2.2.1 z1 K) z1 K).2 t else S.2.2.1.2.2.2 (S.2.2.1.2.1 K + (t - (sp_jh (sp_jn S.2.2.1 z1 K) z1 K).1))
                  simp only [sp_ed]
                  by_cases q1 : t < (sp_jh (sp_jn S.2.2.1 z1 K) z1 K).1
                  · rw [if_pos (by omega), if_pos q1]
                  · rw [if_neg (by omega), if_pos (by omega), if_neg q1]; exact congrArg S.2.2.1.2.2.2 (by omega))
                have hC := hC.spare hos hrs
                have ho : xO 0 53 en en3 := ho.tr (hos.mo (by omega) (by omega))
                refine lv_pop hx hb dX4_joined_97 rfl ?_
                refine x_iinc (lv' := [(5, .int (xI ((K : Int) + 1))), (0, .ref (ad 0)), (1, .int (xI z1)), (3, .ref (ad (21 + 3 * t2))), (4, .ref (ad 11))]) (k := 4) hx hb dX4_joined_98 hl rfl (by decide) rfl (fun ls hl => ?_)
                refine lv_goto (tgt := 34) hx hb dX4_joined_101 (by decide) ?_
                exact ih (K + 1) en3 _ _ (by omega) (by omega) hC hrs ho hP hS ls (lv_sub hl [1, 2, 3, 4, 0] rfl)
            · refine lv_aload hx hb dX4_joined_51 (lv_at hl 3 rfl) ?_
              refine lv_iload_n hx hb dX4_joined_53 rfl (lv_at hl 1 rfl) ?_
              have hj5 : (sp_jn S.2.2.1 z1 K).1 + 1 = S.2.2.1.2.1 K := by rw [sp_jh_s (by omega)] at hj1; exact hj1
              refine xm_v (i := 11) (As := [.int (xI z1)]) (rest := []) ⟨hx, hb, hml, hown, hts⟩ hl.1 (c_X2_add l D cA n ad ew34 _ (by omega) hrs (by omega) z1 (by omega)) k_X2_add u_ml_RX4_48 hK hN hP (by omega) hrs.1 rfl rfl rfl rfl (Nat.le_of_ble_eq_true rfl) ⟨Nat.le_of_ble_eq_true rfl, Nat.le_of_ble_eq_true rfl⟩ ⟨Nat.le_of_ble_eq_true rfl, Nat.le_of_ble_eq_true rfl⟩ dX4_joined_54 hD hS hA (fun en4 H locs hp4 hP hS => ?_)
              obtain ⟨hx1, hos⟩ := hp4
              have hrs : XR cA ad en4 11 (sp_jh (sp_jn S.2.2.1 z1 K) z1 K).1 (sp_jh (sp_jn S.2.2.1 z1 K) z1 K).2 := by rw [sp_jh_s (by omega)]; exact hx1
              have hC := hC.spare hos hrs
              have ho : xO 0 53 en en4 := ho.tr (hos.mo (by omega) (by omega))
              have hT_t2 : XT cA ad en4 (21 + 3 * t2) (S.2.1 t2) := hC.rt h_t2
              obtain ⟨zm_t2, tm_t2, tf_t2, hO_t2, hr_t2⟩ := hT_t2.any
              have hXP := hC.rp
              have hp0 := hXP.to0
              obtain ⟨wn, hw, hwb⟩ := hXP.2.1
              have hwm := hw.2.2.1
              have hPn := hXP.2.2.2.2.1
              have hb1 : ∀ k : Nat, k < S.2.2.1.1 → S.2.2.1.2.1 k ≤ 200 := fun k hk => by have h1 := hwb k hk; have h2 := hXP.2.2.2.2.2.1 k hk; omega
              have hb2 : ∀ k : Nat, k < S.2.2.1.1 → S.2.2.1.2.2.1 k ≤ 200 := fun k hk => by have h1 := hwb k hk; omega
              have hj4 := hwb K hkk
              refine lv_aload hx hb dX4_joined_57 (lv_at hl 3 rfl) ?_
              refine lv_aload hx hb dX4_joined_59 (lv_at hl 3 rfl) ?_
              refine x_getn (T := TX2) (N := 2) hx hb hts uX2 hown hN hK hP (i := 11) (by omega) hrs.1 rfl 1 (by decide) (by simp only [xNest, List.mem_cons]; exact Or.inr (Or.inl rfl)) rfl dX4_joined_61 ?_
              refine lv_aload hx hb dX4_joined_64 (lv_at hl 3 rfl) ?_
              refine x_getn (T := TX2) (N := 2) hx hb hts uX2 hown hN hK hP (i := 11) (by omega) hrs.1 rfl 1 (by decide) (by simp only [xNest, List.mem_cons]; exact Or.inr (Or.inl rfl)) rfl dX4_joined_66 ?_
              refine lv_aload_n hx hb dX4_joined_69 rfl (lv_at hl 0 rfl) ?_
              refine x_get (T := TX4) (N := 6) hx hb hts uX4 hown hK hP (i := 0) (by omega) hC.1 rfl 3 (by decide) u_fl_RX4_30 rfl dX4_joined_70 ?_
              refine x_getn (T := TX1) (N := 4) hx hb hts uX1 hown hN hK hP (i := 4) (by omega) hp0.1 rfl 0 (by decide) (by simp only [xNest, List.mem_cons]; exact Or.inr (Or.inr (Or.inr (Or.inl rfl)))) rfl dX4_joined_73 ?_
              refine lv_aload_n hx hb dX4_joined_76 rfl (lv_at hl 0 rfl) ?_
              refine x_get (T := TX4) (N := 6) hx hb hts uX4 hown hK hP (i := 0) (by omega) hC.1 rfl 3 (by decide) u_fl_RX4_30 rfl dX4_joined_77 ?_
              refine lv_iload hx hb dX4_joined_80 (lv_at hl 4 rfl) ?_
              refine xv_i (i := 4) (As := [.int (xI (K : Int))]) (rest := [.ref (ad 5), .int (xI ((sp_jh (sp_jn S.2.2.1 z1 K) z1 K).1 : Int)), .int (xI ((sp_jh (sp_jn S.2.2.1 z1 K) z1 K).1 : Int)), .ref (ad 11)]) ⟨hx, hb, hml, hown, hts⟩ hl.1 (c_X1_start l D cA n ad en4 (by omega) hp0 hb1 (K : Int) (by omega)) k_X1_start u_ml_RX4_190 hK hN hP (by omega) hp0.1 rfl rfl rfl rfl (Nat.le_of_ble_eq_true rfl) ⟨Nat.le_of_ble_eq_true rfl, Nat.le_of_ble_eq_true rfl⟩ ⟨Nat.le_of_ble_eq_true rfl, Nat.le_of_ble_eq_true rfl⟩ dX4_joined_82 ?_
              refine x_to (((S.2.2.1.2.1 K : Nat) : Int)) (by rw [Int.toNat_natCast]) ?_
              refine lv_aload_n hx hb dX4_joined_85 rfl (lv_at hl 0 rfl) ?_
              refine x_get (T := TX4) (N := 6) hx hb hts uX4 hown hK hP (i := 0) (by omega) hC.1 rfl 3 (by decide) u_fl_RX4_30 rfl dX4_joined_86 ?_
              refine lv_iload hx hb dX4_joined_89 (lv_at hl 4 rfl) ?_
              refine xv_i (i := 4) (As := [.int (xI (K : Int))]) (rest := [.int (xI ((S.2.2.1.2.1 K : Nat) : Int)), .ref (ad 5), .int (xI ((sp_jh (sp_jn S.2.2.1 z1 K) z1 K).1 : Int)), .int (xI ((sp_jh (sp_jn S.2.2.1 z1 K) z1 K).1 : Int)), .ref (ad 11)]) ⟨hx, hb, hml, hown, hts⟩ hl.1 (c_X1_end l D cA n ad en4 (by omega) hp0 hb2 (K : Int) (by omega)) k_X1_end u_ml_RX4_193 hK hN hP (by omega) hp0.1 rfl rfl rfl rfl (Nat.le_of_ble_eq_true rfl) ⟨Nat.le_of_ble_eq_true rfl, Nat.le_of_ble_eq_true rfl⟩ ⟨Nat.le_of_ble_eq_true rfl, Nat.le_of_ble_eq_true rfl⟩ dX4_joined_91 ?_
              refine x_to (((S.2.2.1.2.2.1 K : Nat) : Int)) (by rw [Int.toNat_natCast]) ?_
              refine xm_i (i := 11) (As := [.int (xI ((sp_jh (sp_jn S.2.2.1 z1 K) z1 K).1 : Int)), .int (xI ((sp_jh (sp_jn S.2.2.1 z1 K) z1 K).1 : Int)), .ref (ad 5), .int (xI ((S.2.2.1.2.1 K : Nat) : Int)), .int (xI ((S.2.2.1.2.2.1 K : Nat) : Int))]) (rest := []) ⟨hx, hb, hml, hown, hts⟩ hl.1 (c_X2_change l D cA n ad en4 _ (by omega) hrs (by omega) hw (by omega) ((sp_jh (sp_jn S.2.2.1 z1 K) z1 K).1 : Int) ((sp_jh (sp_jn S.2.2.1 z1 K) z1 K).1 : Int) ((S.2.2.1.2.1 K : Nat) : Int) ((S.2.2.1.2.2.1 K : Nat) : Int) (by omega) (by omega) (by omega) (by omega)) k_X2_change u_ml_RX4_78 hK hN hP (by omega) hrs.1 rfl rfl rfl rfl (Nat.le_of_ble_eq_true rfl) ⟨Nat.le_of_ble_eq_true rfl, Nat.le_of_ble_eq_true rfl⟩ ⟨Nat.le_of_ble_eq_true rfl, Nat.le_of_ble_eq_true rfl⟩ dX4_joined_94 hD hS hA (fun r5 en5 H locs hp5 hP hS => ?_)
              rcases hp5 with hbad | hbad | ⟨-, -, hrv, hx1, hos⟩
              · exact absurd ⟨⟨by omega, by omega, by omega⟩, by omega, by omega, by omega⟩ hbad.1
              · exact absurd hbad.2.1 (by omega)
              · have hrs : XR cA ad en5 11 (sp_jn S.2.2.1 z1 (K + 1)).1 (sp_jn S.2.2.1 z1 (K + 1)).2 := hx1.to (by show _ = (sp_jh (sp_jn S.2.2.1 z1 K) z1 K).1 + (S.2.2.1.2.2.1 K - S.2.2.1.2.1 K); omega) (fun t ht => by
                  show sp_ed _ _ _ _ _ _ t = if t < (sp_jh (sp_jn S.2.2.1 z1 K) z1 K).1 then (sp_jh (sp_jn S.2.2.1 z1 K) z1 K).2 t else S.2.2.1.2.2.2 (S.2.2.1.2.1 K + (t - (sp_jh (sp_jn S.2.2.1 z1 K) z1 K).1))
                  simp only [sp_ed]
                  by_cases q1 : t < (sp_jh (sp_jn S.2.2.1 z1 K) z1 K).1
                  · rw [if_pos (by omega), if_pos q1]
                  · rw [if_neg (by omega), if_pos (by omega), if_neg q1]; exact congrArg S.2.2.1.2.2.2 (by omega))
                have hC := hC.spare hos hrs
                have ho : xO 0 53 en en5 := ho.tr (hos.mo (by omega) (by omega))
                refine lv_pop hx hb dX4_joined_97 rfl ?_
                refine x_iinc (lv' := [(5, .int (xI ((K : Int) + 1))), (0, .ref (ad 0)), (1, .int (xI z1)), (3, .ref (ad (21 + 3 * t2))), (4, .ref (ad 11))]) (k := 4) hx hb dX4_joined_98 hl rfl (by decide) rfl (fun ls hl => ?_)
                refine lv_goto (tgt := 34) hx hb dX4_joined_101 (by decide) ?_
                exact ih (K + 1) en5 _ _ (by omega) (by omega) hC hrs ho hP hS ls (lv_sub hl [1, 2, 3, 4, 0] rfl)
      exact L34 _ 0 en1 _ _ (Nat.zero_le _) (Nat.lt_succ_self _) hC (hrs.to rfl (fun t ht => absurd ht (by omega))) ho hP hS ls (lv_sub hl [3, 4, 2, 1, 0] rfl)
    · refine x_sipush hx hb dX4_joined_21 (by decide +kernel) ?_
      exact xe_i hx hb hrt hlocks hP hS ((by unfold am_joined; simp only [Int.toNat_natCast]; rw [sp_if_f (by omega), sp_if_t (by omega)]; exact ⟨rfl, hC, xO.rf⟩)) dX4_joined_24
  · have hXP := hC.rp
    have hp0 := hXP.to0
    obtain ⟨wn, hw, hwb⟩ := hXP.2.1
    have hwm := hw.2.2.1
    have hPn := hXP.2.2.2.2.1
    have hb1 : ∀ k : Nat, k < S.2.2.1.1 → S.2.2.1.2.1 k ≤ 200 := fun k hk => by have h1 := hwb k hk; have h2 := hXP.2.2.2.2.2.1 k hk; omega
    have hb2 : ∀ k : Nat, k < S.2.2.1.1 → S.2.2.1.2.2.1 k ≤ 200 := fun k hk => by have h1 := hwb k hk; omega
    refine lv_aload_n hx hb dX4_joined_0 rfl (lv_at hl 0 rfl) ?_
    refine lv_iload_n hx hb dX4_joined_1 rfl (lv_at hl 2 rfl) ?_
    refine xv_q (i := 0) (As := [.int (xI z2)]) (rest := []) ⟨hx, hb, hml, hown, hts⟩ hl.1 (c_X4_textOf_out l D cA n ad en (by omega) hC z2 (by omega) (by omega)) k_X4_textOf u_ml_RX4_97 hK hN hP (by omega) hC.1 rfl rfl rfl rfl (Nat.le_of_ble_eq_true rfl) ⟨Nat.le_of_ble_eq_true rfl, Nat.le_of_ble_eq_true rfl⟩ ⟨Nat.le_of_ble_eq_true rfl, Nat.le_of_ble_eq_true rfl⟩ dX4_joined_2 ?_
    refine lv_astore_nN (lv' := [(3, .null), (0, .ref (ad 0)), (1, .int (xI z1)), (2, .int (xI z2))]) hx hb dX4_joined_5 rfl hl (by decide) rfl (fun ls hl => ?_)
    refine lv_aload_nN hx hb dX4_joined_6 rfl (lv_at hl 0 rfl) ?_
    refine lv_ifnonnullN hx hb dX4_joined_7 ?_
    refine x_sipush hx hb dX4_joined_10 (by decide +kernel) ?_
    exact xe_i hx hb hrt hlocks hP hS ((by unfold am_joined; rw [sp_if_t (by omega)]; exact ⟨rfl, hC, xO.rf⟩)) dX4_joined_13

theorem sp_tl_b (G : Prop) (S : Int → Prop) (f : Nat → Int) (m : Int) : ∀ (k : Nat) (a : Int), 0 ≤ sp_tl G S f m k a ∧ sp_tl G S f m k a ≤ (k : Int) := by
  intro k
  induction k with
  | zero => intro a; rw [sp_tl]; exact ⟨Int.le_refl _, Int.le_refl _⟩
  | succ k ih =>
    intro a
    rw [sp_tl]
    split
    · have h := ih (sp_ts G S f m (sp_te S f m a))
      omega
    · omega
theorem sp_left_b (G : Prop) (S : Int → Prop) (f : Nat → Int) (m a : Int) : 0 ≤ sp_left G S f m a ∧ sp_left G S f m a ≤ 201 := sp_tl_b G S f m 201 _

set_option maxRecDepth 20000 in
theorem c_X4_cutter (l : Launch) (D : va_G) (cA : Nat → ClassId) (n : Nat) (ad : Nat → Nat) (en : Nat → va_E) (sz : Nat) (hn : 53 ≤ n) {S : xSt} (hC : CW cA ad en S) (z1 : Int) (hz1 : -2147483648 ≤ z1 ∧ z1 ≤ 2147483647) (z2 : Int) (hz2 : -2147483648 ≤ z2 ∧ z2 ≤ 2147483647) (z3 : Int) (hz3 : -2147483648 ≤ z3 ∧ z3 ≤ 2147483647) (z4 : Prop) : Met l yX4_cutter (Cond.code yX4_cutter cX4_cutter 8 (some .int) :: xU) (xrm 5 108) (va_Pc [.ref (ad 0), .int (xI z1), .int (xI z2), .int (xI z3), .int (xb z4)] (xM D cA n ad en sz)) (va_Qi (fun r u => r = xI (am_cutter S z1 z2 z3 z4).1 ∧ CW cA ad u (am_cutter S z1 z2 z3 z4).2 ∧ xO 0 53 en u) (xE D n ad) (xA n ad sz)) 0 0 (xA n ad sz) := by
  refine xmet (by decide) (Nat.le_of_ble_eq_true rfl) (fun p e s mm args below meth c ls hx hb hrt hml hown hts hlocks hname hB hl => ?_)
  obtain ⟨⟨hP, hK, hN⟩, hsz, hDt⟩ := hB
  have hD : xD (xA n ad sz) n ad := xD_self hDt sz
  have hA : ∀ q : Nat, s.heap.size ≤ q → xA n ad sz q := fun q h => Or.inr (by rw [← hsz]; exact h)
  have hS : va_S (xA n ad sz) s.heap s.heap [] := va_S.rf
  have hown : s.vm.findClass RX4 = some mm.cls := hown
  have hl : lv_has ls 8 [(0, .ref (ad 0)), (1, .int (xI z1)), (2, .int (xI z2)), (3, .int (xI z3)), (4, .int (xb z4))] := hl
  rcases Classical.em (0 ≤ z1 ∧ z1 < 2) with hx_z1 | hx_z1
  · obtain ⟨q1, rfl⟩ : ∃ q : Nat, z1 = (q : Int) := ⟨z1.toNat, by omega⟩
    have h_q1 : q1 < 2 := by omega
    rcases Classical.em (0 ≤ z2 ∧ z2 < 8) with hx_z2 | hx_z2
    · obtain ⟨t2, rfl⟩ : ∃ q : Nat, z2 = (q : Int) := ⟨z2.toNat, by omega⟩
      have h_t2 : t2 < 8 := by omega
      rcases hS_t2 : S.2.1 t2 with _ | r_t2
      · rcases Classical.em (0 ≤ z3 ∧ z3 < 8) with hx_z3 | hx_z3
        · obtain ⟨t3, rfl⟩ : ∃ q : Nat, z3 = (q : Int) := ⟨z3.toNat, by omega⟩
          have h_t3 : t3 < 8 := by omega
          rcases hS_t3 : S.2.1 t3 with _ | r_t3
          · have hC_q1 : XC cA ad en (45 + 4 * q1) (S.2.2.2 q1) := hC.rc h_q1
            obtain ⟨km_q1, kf_q1, kG_q1, kz_q1, kp_q1, hk_q1⟩ := hC_q1.any
            have hT_t2 : XT cA ad en (21 + 3 * t2) none := by have q : XT cA ad en (21 + 3 * t2) (S.2.1 t2) := hC.rt h_t2; rw [hS_t2] at q; exact q
            have hT_t3 : XT cA ad en (21 + 3 * t3) none := by have q : XT cA ad en (21 + 3 * t3) (S.2.1 t3) := hC.rt h_t3; rw [hS_t3] at q; exact q
            refine lv_aload_n hx hb dX4_cutter_0 rfl (lv_at hl 0 rfl) ?_
            refine lv_iload_n hx hb dX4_cutter_1 rfl (lv_at hl 1 rfl) ?_
            refine xv_q (i := 0) (As := [.int (xI (q1 : Int))]) (rest := []) ⟨hx, hb, hml, hown, hts⟩ hl.1 (c_X4_cutterOf_in l D cA n ad en (by omega) hC q1 (by omega)) k_X4_cutterOf u_ml_RX4_196 hK hN hP (by omega) hC.1 rfl rfl rfl rfl (Nat.le_of_ble_eq_true rfl) ⟨Nat.le_of_ble_eq_true rfl, Nat.le_of_ble_eq_true rfl⟩ ⟨Nat.le_of_ble_eq_true rfl, Nat.le_of_ble_eq_true rfl⟩ dX4_cutter_2 ?_
            refine lv_astore (lv' := [(5, .ref (ad (45 + 4 * q1))), (0, .ref (ad 0)), (1, .int (xI (q1 : Int))), (2, .int (xI (t2 : Int))), (3, .int (xI (t3 : Int))), (4, .int (xb z4))]) hx hb dX4_cutter_5 hl (by decide) rfl (fun ls hl => ?_)
            refine lv_aload_n hx hb dX4_cutter_7 rfl (lv_at hl 1 rfl) ?_
            refine lv_iload_n hx hb dX4_cutter_8 rfl (lv_at hl 3 rfl) ?_
            refine xv_q (i := 0) (As := [.int (xI (t2 : Int))]) (rest := []) ⟨hx, hb, hml, hown, hts⟩ hl.1 (c_X4_textOf_in l D cA n ad en (by omega) hC t2 (by omega)) k_X4_textOf u_ml_RX4_97 hK hN hP (by omega) hC.1 rfl rfl rfl rfl (Nat.le_of_ble_eq_true rfl) ⟨Nat.le_of_ble_eq_true rfl, Nat.le_of_ble_eq_true rfl⟩ ⟨Nat.le_of_ble_eq_true rfl, Nat.le_of_ble_eq_true rfl⟩ dX4_cutter_9 ?_
            refine lv_astore (lv' := [(6, .ref (ad (21 + 3 * t2))), (5, .ref (ad (45 + 4 * q1))), (0, .ref (ad 0)), (1, .int (xI (q1 : Int))), (2, .int (xI (t2 : Int))), (3, .int (xI (t3 : Int))), (4, .int (xb z4))]) hx hb dX4_cutter_12 hl (by decide) rfl (fun ls hl => ?_)
            refine lv_aload_n hx hb dX4_cutter_14 rfl (lv_at hl 2 rfl) ?_
            refine lv_iload_n hx hb dX4_cutter_15 rfl (lv_at hl 5 rfl) ?_
            refine xv_q (i := 0) (As := [.int (xI (t3 : Int))]) (rest := []) ⟨hx, hb, hml, hown, hts⟩ hl.1 (c_X4_textOf_in l D cA n ad en (by omega) hC t3 (by omega)) k_X4_textOf u_ml_RX4_97 hK hN hP (by omega) hC.1 rfl rfl rfl rfl (Nat.le_of_ble_eq_true rfl) ⟨Nat.le_of_ble_eq_true rfl, Nat.le_of_ble_eq_true rfl⟩ ⟨Nat.le_of_ble_eq_true rfl, Nat.le_of_ble_eq_true rfl⟩ dX4_cutter_16 ?_
            refine lv_astore (lv' := [(7, .ref (ad (21 + 3 * t3))), (6, .ref (ad (21 + 3 * t2))), (5, .ref (ad (45 + 4 * q1))), (0, .ref (ad 0)), (1, .int (xI (q1 : Int))), (2, .int (xI (t2 : Int))), (3, .int (xI (t3 : Int))), (4, .int (xb z4))]) hx hb dX4_cutter_19 hl (by decide) rfl (fun ls hl => ?_)
            refine lv_aload hx hb dX4_cutter_21 (lv_at hl 2 rfl) ?_
            refine lv_ifnull hx hb dX4_cutter_23 ?_
            refine lv_aload hx hb dX4_cutter_26 (lv_at hl 1 rfl) ?_
            refine lv_ifnull hx hb dX4_cutter_28 ?_
            refine lv_aload hx hb dX4_cutter_31 (lv_at hl 0 rfl) ?_
            refine lv_ifnonnull (tgt := 40) hx hb dX4_cutter_33 (by decide) ?_
            refine lv_aload hx hb dX4_cutter_40 (lv_at hl 1 rfl) ?_
            refine x_getn (T := TX3) (N := 2) hx hb hts uX3 hown hN hK hP (i := 21 + 3 * t2) (by omega) hT_t2.1 rfl 1 (by decide) (by simp only [xNest, List.mem_cons]; exact Or.inr (Or.inr (Or.inr (Or.inr (Or.inr (Or.inr (Or.inl rfl))))))) rfl dX4_cutter_42 ?_
            refine x_if_ne (tgt := 56) hx hb dX4_cutter_45 (by decide) (by omega) (fun c_45 => ?_) (fun c_45 => absurd c_45 (by omega))
            refine x_sipush hx hb dX4_cutter_56 (by decide +kernel) ?_
            exact xe_i hx hb hrt hlocks hP hS ((by unfold am_cutter; simp only [Int.toNat_natCast]; rw [sp_if_f (by omega), sp_if_t (by simp [hS_t2, hS_t3])]; exact ⟨rfl, hC, xO.rf⟩)) dX4_cutter_59
          · have hC_q1 : XC cA ad en (45 + 4 * q1) (S.2.2.2 q1) := hC.rc h_q1
            obtain ⟨km_q1, kf_q1, kG_q1, kz_q1, kp_q1, hk_q1⟩ := hC_q1.any
            have hT_t2 : XT cA ad en (21 + 3 * t2) none := by have q : XT cA ad en (21 + 3 * t2) (S.2.1 t2) := hC.rt h_t2; rw [hS_t2] at q; exact q
            have hT_t3 : XT cA ad en (21 + 3 * t3) (some r_t3) := by have q : XT cA ad en (21 + 3 * t3) (S.2.1 t3) := hC.rt h_t3; rw [hS_t3] at q; exact q
            have hr_t3 := hT_t3.2
            have hm_t3 := hr_t3.2.2.1
            refine lv_aload_n hx hb dX4_cutter_0 rfl (lv_at hl 0 rfl) ?_
            refine lv_iload_n hx hb dX4_cutter_1 rfl (lv_at hl 1 rfl) ?_
            refine xv_q (i := 0) (As := [.int (xI (q1 : Int))]) (rest := []) ⟨hx, hb, hml, hown, hts⟩ hl.1 (c_X4_cutterOf_in l D cA n ad en (by omega) hC q1 (by omega)) k_X4_cutterOf u_ml_RX4_196 hK hN hP (by omega) hC.1 rfl rfl rfl rfl (Nat.le_of_ble_eq_true rfl) ⟨Nat.le_of_ble_eq_true rfl, Nat.le_of_ble_eq_true rfl⟩ ⟨Nat.le_of_ble_eq_true rfl, Nat.le_of_ble_eq_true rfl⟩ dX4_cutter_2 ?_
            refine lv_astore (lv' := [(5, .ref (ad (45 + 4 * q1))), (0, .ref (ad 0)), (1, .int (xI (q1 : Int))), (2, .int (xI (t2 : Int))), (3, .int (xI (t3 : Int))), (4, .int (xb z4))]) hx hb dX4_cutter_5 hl (by decide) rfl (fun ls hl => ?_)
            refine lv_aload_n hx hb dX4_cutter_7 rfl (lv_at hl 1 rfl) ?_
            refine lv_iload_n hx hb dX4_cutter_8 rfl (lv_at hl 3 rfl) ?_
            refine xv_q (i := 0) (As := [.int (xI (t2 : Int))]) (rest := []) ⟨hx, hb, hml, hown, hts⟩ hl.1 (c_X4_textOf_in l D cA n ad en (by omega) hC t2 (by omega)) k_X4_textOf u_ml_RX4_97 hK hN hP (by omega) hC.1 rfl rfl rfl rfl (Nat.le_of_ble_eq_true rfl) ⟨Nat.le_of_ble_eq_true rfl, Nat.le_of_ble_eq_true rfl⟩ ⟨Nat.le_of_ble_eq_true rfl, Nat.le_of_ble_eq_true rfl⟩ dX4_cutter_9 ?_
            refine lv_astore (lv' := [(6, .ref (ad (21 + 3 * t2))), (5, .ref (ad (45 + 4 * q1))), (0, .ref (ad 0)), (1, .int (xI (q1 : Int))), (2, .int (xI (t2 : Int))), (3, .int (xI (t3 : Int))), (4, .int (xb z4))]) hx hb dX4_cutter_12 hl (by decide) rfl (fun ls hl => ?_)
            refine lv_aload_n hx hb dX4_cutter_14 rfl (lv_at hl 2 rfl) ?_
            refine lv_iload_n hx hb dX4_cutter_15 rfl (lv_at hl 5 rfl) ?_
            refine xv_q (i := 0) (As := [.int (xI (t3 : Int))]) (rest := []) ⟨hx, hb, hml, hown, hts⟩ hl.1 (c_X4_textOf_in l D cA n ad en (by omega) hC t3 (by omega)) k_X4_textOf u_ml_RX4_97 hK hN hP (by omega) hC.1 rfl rfl rfl rfl (Nat.le_of_ble_eq_true rfl) ⟨Nat.le_of_ble_eq_true rfl, Nat.le_of_ble_eq_true rfl⟩ ⟨Nat.le_of_ble_eq_true rfl, Nat.le_of_ble_eq_true rfl⟩ dX4_cutter_16 ?_
            refine lv_astore (lv' := [(7, .ref (ad (21 + 3 * t3))), (6, .ref (ad (21 + 3 * t2))), (5, .ref (ad (45 + 4 * q1))), (0, .ref (ad 0)), (1, .int (xI (q1 : Int))), (2, .int (xI (t2 : Int))), (3, .int (xI (t3 : Int))), (4, .int (xb z4))]) hx hb dX4_cutter_19 hl (by decide) rfl (fun ls hl => ?_)
            refine lv_aload hx hb dX4_cutter_21 (lv_at hl 2 rfl) ?_
            refine lv_ifnull hx hb dX4_cutter_23 ?_
            refine lv_aload hx hb dX4_cutter_26 (lv_at hl 1 rfl) ?_
            refine lv_ifnull hx hb dX4_cutter_28 ?_
            refine lv_aload hx hb dX4_cutter_31 (lv_at hl 0 rfl) ?_
            refine lv_ifnonnull (tgt := 40) hx hb dX4_cutter_33 (by decide) ?_
            refine lv_aload hx hb dX4_cutter_40 (lv_at hl 1 rfl) ?_
            refine x_getn (T := TX3) (N := 2) hx hb hts uX3 hown hN hK hP (i := 21 + 3 * t2) (by omega) hT_t2.1 rfl 1 (by decide) (by simp only [xNest, List.mem_cons]; exact Or.inr (Or.inr (Or.inr (Or.inr (Or.inr (Or.inr (Or.inl rfl))))))) rfl dX4_cutter_42 ?_
            refine x_if_ne (tgt := 56) hx hb dX4_cutter_45 (by decide) (by omega) (fun c_45 => ?_) (fun c_45 => absurd c_45 (by omega))
            refine x_sipush hx hb dX4_cutter_56 (by decide +kernel) ?_
            exact xe_i hx hb hrt hlocks hP hS ((by unfold am_cutter; simp only [Int.toNat_natCast]; simp only [sp_get_s hS_t3]; rw [sp_if_f (by omega), sp_if_t (by simp [hS_t2, hS_t3])]; exact ⟨rfl, hC, xO.rf⟩)) dX4_cutter_59
        · have hC_q1 : XC cA ad en (45 + 4 * q1) (S.2.2.2 q1) := hC.rc h_q1
          obtain ⟨km_q1, kf_q1, kG_q1, kz_q1, kp_q1, hk_q1⟩ := hC_q1.any
          have hT_t2 : XT cA ad en (21 + 3 * t2) none := by have q : XT cA ad en (21 + 3 * t2) (S.2.1 t2) := hC.rt h_t2; rw [hS_t2] at q; exact q
          refine lv_aload_n hx hb dX4_cutter_0 rfl (lv_at hl 0 rfl) ?_
          refine lv_iload_n hx hb dX4_cutter_1 rfl (lv_at hl 1 rfl) ?_
          refine xv_q (i := 0) (As := [.int (xI (q1 : Int))]) (rest := []) ⟨hx, hb, hml, hown, hts⟩ hl.1 (c_X4_cutterOf_in l D cA n ad en (by omega) hC q1 (by omega)) k_X4_cutterOf u_ml_RX4_196 hK hN hP (by omega) hC.1 rfl rfl rfl rfl (Nat.le_of_ble_eq_true rfl) ⟨Nat.le_of_ble_eq_true rfl, Nat.le_of_ble_eq_true rfl⟩ ⟨Nat.le_of_ble_eq_true rfl, Nat.le_of_ble_eq_true rfl⟩ dX4_cutter_2 ?_
          refine lv_astore (lv' := [(5, .ref (ad (45 + 4 * q1))), (0, .ref (ad 0)), (1, .int (xI (q1 : Int))), (2, .int (xI (t2 : Int))), (3, .int (xI z3)), (4, .int (xb z4))]) hx hb dX4_cutter_5 hl (by decide) rfl (fun ls hl => ?_)
          refine lv_aload_n hx hb dX4_cutter_7 rfl (lv_at hl 1 rfl) ?_
          refine lv_iload_n hx hb dX4_cutter_8 rfl (lv_at hl 3 rfl) ?_
          refine xv_q (i := 0) (As := [.int (xI (t2 : Int))]) (rest := []) ⟨hx, hb, hml, hown, hts⟩ hl.1 (c_X4_textOf_in l D cA n ad en (by omega) hC t2 (by omega)) k_X4_textOf u_ml_RX4_97 hK hN hP (by omega) hC.1 rfl rfl rfl rfl (Nat.le_of_ble_eq_true rfl) ⟨Nat.le_of_ble_eq_true rfl, Nat.le_of_ble_eq_true rfl⟩ ⟨Nat.le_of_ble_eq_true rfl, Nat.le_of_ble_eq_true rfl⟩ dX4_cutter_9 ?_
          refine lv_astore (lv' := [(6, .ref (ad (21 + 3 * t2))), (5, .ref (ad (45 + 4 * q1))), (0, .ref (ad 0)), (1, .int (xI (q1 : Int))), (2, .int (xI (t2 : Int))), (3, .int (xI z3)), (4, .int (xb z4))]) hx hb dX4_cutter_12 hl (by decide) rfl (fun ls hl => ?_)
          refine lv_aload_n hx hb dX4_cutter_14 rfl (lv_at hl 2 rfl) ?_
          refine lv_iload_n hx hb dX4_cutter_15 rfl (lv_at hl 5 rfl) ?_
          refine xv_q (i := 0) (As := [.int (xI z3)]) (rest := []) ⟨hx, hb, hml, hown, hts⟩ hl.1 (c_X4_textOf_out l D cA n ad en (by omega) hC z3 (by omega) (by omega)) k_X4_textOf u_ml_RX4_97 hK hN hP (by omega) hC.1 rfl rfl rfl rfl (Nat.le_of_ble_eq_true rfl) ⟨Nat.le_of_ble_eq_true rfl, Nat.le_of_ble_eq_true rfl⟩ ⟨Nat.le_of_ble_eq_true rfl, Nat.le_of_ble_eq_true rfl⟩ dX4_cutter_16 ?_
          refine lv_astoreN (lv' := [(7, .null), (6, .ref (ad (21 + 3 * t2))), (5, .ref (ad (45 + 4 * q1))), (0, .ref (ad 0)), (1, .int (xI (q1 : Int))), (2, .int (xI (t2 : Int))), (3, .int (xI z3)), (4, .int (xb z4))]) hx hb dX4_cutter_19 hl (by decide) rfl (fun ls hl => ?_)
          refine lv_aload hx hb dX4_cutter_21 (lv_at hl 2 rfl) ?_
          refine lv_ifnull hx hb dX4_cutter_23 ?_
          refine lv_aload hx hb dX4_cutter_26 (lv_at hl 1 rfl) ?_
          refine lv_ifnull hx hb dX4_cutter_28 ?_
          refine lv_aloadN hx hb dX4_cutter_31 (lv_at hl 0 rfl) ?_
          refine lv_ifnonnullN hx hb dX4_cutter_33 ?_
          refine x_sipush hx hb dX4_cutter_36 (by decide +kernel) ?_
          exact xe_i hx hb hrt hlocks hP hS ((by unfold am_cutter; simp only [Int.toNat_natCast]; rw [sp_if_t (by omega)]; exact ⟨rfl, hC, xO.rf⟩)) dX4_cutter_39
      · rcases Classical.em (0 ≤ z3 ∧ z3 < 8) with hx_z3 | hx_z3
        · obtain ⟨t3, rfl⟩ : ∃ q : Nat, z3 = (q : Int) := ⟨z3.toNat, by omega⟩
          have h_t3 : t3 < 8 := by omega
          rcases hS_t3 : S.2.1 t3 with _ | r_t3
          · have hC_q1 : XC cA ad en (45 + 4 * q1) (S.2.2.2 q1) := hC.rc h_q1
            obtain ⟨km_q1, kf_q1, kG_q1, kz_q1, kp_q1, hk_q1⟩ := hC_q1.any
            have hT_t2 : XT cA ad en (21 + 3 * t2) (some r_t2) := by have q : XT cA ad en (21 + 3 * t2) (S.2.1 t2) := hC.rt h_t2; rw [hS_t2] at q; exact q
            have hr_t2 := hT_t2.2
            have hm_t2 := hr_t2.2.2.1
            have hT_t3 : XT cA ad en (21 + 3 * t3) none := by have q : XT cA ad en (21 + 3 * t3) (S.2.1 t3) := hC.rt h_t3; rw [hS_t3] at q; exact q
            refine lv_aload_n hx hb dX4_cutter_0 rfl (lv_at hl 0 rfl) ?_
            refine lv_iload_n hx hb dX4_cutter_1 rfl (lv_at hl 1 rfl) ?_
            refine xv_q (i := 0) (As := [.int (xI (q1 : Int))]) (rest := []) ⟨hx, hb, hml, hown, hts⟩ hl.1 (c_X4_cutterOf_in l D cA n ad en (by omega) hC q1 (by omega)) k_X4_cutterOf u_ml_RX4_196 hK hN hP (by omega) hC.1 rfl rfl rfl rfl (Nat.le_of_ble_eq_true rfl) ⟨Nat.le_of_ble_eq_true rfl, Nat.le_of_ble_eq_true rfl⟩ ⟨Nat.le_of_ble_eq_true rfl, Nat.le_of_ble_eq_true rfl⟩ dX4_cutter_2 ?_
            refine lv_astore (lv' := [(5, .ref (ad (45 + 4 * q1))), (0, .ref (ad 0)), (1, .int (xI (q1 : Int))), (2, .int (xI (t2 : Int))), (3, .int (xI (t3 : Int))), (4, .int (xb z4))]) hx hb dX4_cutter_5 hl (by decide) rfl (fun ls hl => ?_)
            refine lv_aload_n hx hb dX4_cutter_7 rfl (lv_at hl 1 rfl) ?_
            refine lv_iload_n hx hb dX4_cutter_8 rfl (lv_at hl 3 rfl) ?_
            refine xv_q (i := 0) (As := [.int (xI (t2 : Int))]) (rest := []) ⟨hx, hb, hml, hown, hts⟩ hl.1 (c_X4_textOf_in l D cA n ad en (by omega) hC t2 (by omega)) k_X4_textOf u_ml_RX4_97 hK hN hP (by omega) hC.1 rfl rfl rfl rfl (Nat.le_of_ble_eq_true rfl) ⟨Nat.le_of_ble_eq_true rfl, Nat.le_of_ble_eq_true rfl⟩ ⟨Nat.le_of_ble_eq_true rfl, Nat.le_of_ble_eq_true rfl⟩ dX4_cutter_9 ?_
            refine lv_astore (lv' := [(6, .ref (ad (21 + 3 * t2))), (5, .ref (ad (45 + 4 * q1))), (0, .ref (ad 0)), (1, .int (xI (q1 : Int))), (2, .int (xI (t2 : Int))), (3, .int (xI (t3 : Int))), (4, .int (xb z4))]) hx hb dX4_cutter_12 hl (by decide) rfl (fun ls hl => ?_)
            refine lv_aload_n hx hb dX4_cutter_14 rfl (lv_at hl 2 rfl) ?_
            refine lv_iload_n hx hb dX4_cutter_15 rfl (lv_at hl 5 rfl) ?_
            refine xv_q (i := 0) (As := [.int (xI (t3 : Int))]) (rest := []) ⟨hx, hb, hml, hown, hts⟩ hl.1 (c_X4_textOf_in l D cA n ad en (by omega) hC t3 (by omega)) k_X4_textOf u_ml_RX4_97 hK hN hP (by omega) hC.1 rfl rfl rfl rfl (Nat.le_of_ble_eq_true rfl) ⟨Nat.le_of_ble_eq_true rfl, Nat.le_of_ble_eq_true rfl⟩ ⟨Nat.le_of_ble_eq_true rfl, Nat.le_of_ble_eq_true rfl⟩ dX4_cutter_16 ?_
            refine lv_astore (lv' := [(7, .ref (ad (21 + 3 * t3))), (6, .ref (ad (21 + 3 * t2))), (5, .ref (ad (45 + 4 * q1))), (0, .ref (ad 0)), (1, .int (xI (q1 : Int))), (2, .int (xI (t2 : Int))), (3, .int (xI (t3 : Int))), (4, .int (xb z4))]) hx hb dX4_cutter_19 hl (by decide) rfl (fun ls hl => ?_)
            refine lv_aload hx hb dX4_cutter_21 (lv_at hl 2 rfl) ?_
            refine lv_ifnull hx hb dX4_cutter_23 ?_
            refine lv_aload hx hb dX4_cutter_26 (lv_at hl 1 rfl) ?_
            refine lv_ifnull hx hb dX4_cutter_28 ?_
            refine lv_aload hx hb dX4_cutter_31 (lv_at hl 0 rfl) ?_
            refine lv_ifnonnull (tgt := 40) hx hb dX4_cutter_33 (by decide) ?_
            refine lv_aload hx hb dX4_cutter_40 (lv_at hl 1 rfl) ?_
            refine x_getn (T := TX3) (N := 2) hx hb hts uX3 hown hN hK hP (i := 21 + 3 * t2) (by omega) hT_t2.1 rfl 1 (by decide) (by simp only [xNest, List.mem_cons]; exact Or.inr (Or.inr (Or.inr (Or.inr (Or.inr (Or.inr (Or.inl rfl))))))) rfl dX4_cutter_42 ?_
            refine x_if_ne (tgt := 56) hx hb dX4_cutter_45 (by decide) (by omega) (fun c_45 => absurd c_45 (by omega)) (fun c_45 => ?_)
            refine lv_aload hx hb dX4_cutter_48 (lv_at hl 0 rfl) ?_
            refine x_getn (T := TX3) (N := 2) hx hb hts uX3 hown hN hK hP (i := 21 + 3 * t3) (by omega) hT_t3.1 rfl 1 (by decide) (by simp only [xNest, List.mem_cons]; exact Or.inr (Or.inr (Or.inr (Or.inr (Or.inr (Or.inr (Or.inl rfl))))))) rfl dX4_cutter_50 ?_
            refine x_if_eq (tgt := 60) hx hb dX4_cutter_53 (by decide) (by omega) (fun c_53 => absurd c_53 (by omega)) (fun c_53 => ?_)
            refine x_sipush hx hb dX4_cutter_56 (by decide +kernel) ?_
            exact xe_i hx hb hrt hlocks hP hS ((by unfold am_cutter; simp only [Int.toNat_natCast]; simp only [sp_get_s hS_t2]; rw [sp_if_f (by omega), sp_if_t (by simp [hS_t2, hS_t3])]; exact ⟨rfl, hC, xO.rf⟩)) dX4_cutter_59
          · have hC_q1 : XC cA ad en (45 + 4 * q1) (S.2.2.2 q1) := hC.rc h_q1
            obtain ⟨km_q1, kf_q1, kG_q1, kz_q1, kp_q1, hk_q1⟩ := hC_q1.any
            have hT_t2 : XT cA ad en (21 + 3 * t2) (some r_t2) := by have q : XT cA ad en (21 + 3 * t2) (S.2.1 t2) := hC.rt h_t2; rw [hS_t2] at q; exact q
            have hr_t2 := hT_t2.2
            have hm_t2 := hr_t2.2.2.1
            have hT_t3 : XT cA ad en (21 + 3 * t3) (some r_t3) := by have q : XT cA ad en (21 + 3 * t3) (S.2.1 t3) := hC.rt h_t3; rw [hS_t3] at q; exact q
            have hr_t3 := hT_t3.2
            have hm_t3 := hr_t3.2.2.1
            refine lv_aload_n hx hb dX4_cutter_0 rfl (lv_at hl 0 rfl) ?_
            refine lv_iload_n hx hb dX4_cutter_1 rfl (lv_at hl 1 rfl) ?_
            refine xv_q (i := 0) (As := [.int (xI (q1 : Int))]) (rest := []) ⟨hx, hb, hml, hown, hts⟩ hl.1 (c_X4_cutterOf_in l D cA n ad en (by omega) hC q1 (by omega)) k_X4_cutterOf u_ml_RX4_196 hK hN hP (by omega) hC.1 rfl rfl rfl rfl (Nat.le_of_ble_eq_true rfl) ⟨Nat.le_of_ble_eq_true rfl, Nat.le_of_ble_eq_true rfl⟩ ⟨Nat.le_of_ble_eq_true rfl, Nat.le_of_ble_eq_true rfl⟩ dX4_cutter_2 ?_
            refine lv_astore (lv' := [(5, .ref (ad (45 + 4 * q1))), (0, .ref (ad 0)), (1, .int (xI (q1 : Int))), (2, .int (xI (t2 : Int))), (3, .int (xI (t3 : Int))), (4, .int (xb z4))]) hx hb dX4_cutter_5 hl (by decide) rfl (fun ls hl => ?_)
            refine lv_aload_n hx hb dX4_cutter_7 rfl (lv_at hl 1 rfl) ?_
            refine lv_iload_n hx hb dX4_cutter_8 rfl (lv_at hl 3 rfl) ?_
            refine xv_q (i := 0) (As := [.int (xI (t2 : Int))]) (rest := []) ⟨hx, hb, hml, hown, hts⟩ hl.1 (c_X4_textOf_in l D cA n ad en (by omega) hC t2 (by omega)) k_X4_textOf u_ml_RX4_97 hK hN hP (by omega) hC.1 rfl rfl rfl rfl (Nat.le_of_ble_eq_true rfl) ⟨Nat.le_of_ble_eq_true rfl, Nat.le_of_ble_eq_true rfl⟩ ⟨Nat.le_of_ble_eq_true rfl, Nat.le_of_ble_eq_true rfl⟩ dX4_cutter_9 ?_
            refine lv_astore (lv' := [(6, .ref (ad (21 + 3 * t2))), (5, .ref (ad (45 + 4 * q1))), (0, .ref (ad 0)), (1, .int (xI (q1 : Int))), (2, .int (xI (t2 : Int))), (3, .int (xI (t3 : Int))), (4, .int (xb z4))]) hx hb dX4_cutter_12 hl (by decide) rfl (fun ls hl => ?_)
            refine lv_aload_n hx hb dX4_cutter_14 rfl (lv_at hl 2 rfl) ?_
            refine lv_iload_n hx hb dX4_cutter_15 rfl (lv_at hl 5 rfl) ?_
            refine xv_q (i := 0) (As := [.int (xI (t3 : Int))]) (rest := []) ⟨hx, hb, hml, hown, hts⟩ hl.1 (c_X4_textOf_in l D cA n ad en (by omega) hC t3 (by omega)) k_X4_textOf u_ml_RX4_97 hK hN hP (by omega) hC.1 rfl rfl rfl rfl (Nat.le_of_ble_eq_true rfl) ⟨Nat.le_of_ble_eq_true rfl, Nat.le_of_ble_eq_true rfl⟩ ⟨Nat.le_of_ble_eq_true rfl, Nat.le_of_ble_eq_true rfl⟩ dX4_cutter_16 ?_
            refine lv_astore (lv' := [(7, .ref (ad (21 + 3 * t3))), (6, .ref (ad (21 + 3 * t2))), (5, .ref (ad (45 + 4 * q1))), (0, .ref (ad 0)), (1, .int (xI (q1 : Int))), (2, .int (xI (t2 : Int))), (3, .int (xI (t3 : Int))), (4, .int (xb z4))]) hx hb dX4_cutter_19 hl (by decide) rfl (fun ls hl => ?_)
            refine lv_aload hx hb dX4_cutter_21 (lv_at hl 2 rfl) ?_
            refine lv_ifnull hx hb dX4_cutter_23 ?_
            refine lv_aload hx hb dX4_cutter_26 (lv_at hl 1 rfl) ?_
            refine lv_ifnull hx hb dX4_cutter_28 ?_
            refine lv_aload hx hb dX4_cutter_31 (lv_at hl 0 rfl) ?_
            refine lv_ifnonnull (tgt := 40) hx hb dX4_cutter_33 (by decide) ?_
            refine lv_aload hx hb dX4_cutter_40 (lv_at hl 1 rfl) ?_
            refine x_getn (T := TX3) (N := 2) hx hb hts uX3 hown hN hK hP (i := 21 + 3 * t2) (by omega) hT_t2.1 rfl 1 (by decide) (by simp only [xNest, List.mem_cons]; exact Or.inr (Or.inr (Or.inr (Or.inr (Or.inr (Or.inr (Or.inl rfl))))))) rfl dX4_cutter_42 ?_
            refine x_if_ne (tgt := 56) hx hb dX4_cutter_45 (by decide) (by omega) (fun c_45 => absurd c_45 (by omega)) (fun c_45 => ?_)
            refine lv_aload hx hb dX4_cutter_48 (lv_at hl 0 rfl) ?_
            refine x_getn (T := TX3) (N := 2) hx hb hts uX3 hown hN hK hP (i := 21 + 3 * t3) (by omega) hT_t3.1 rfl 1 (by decide) (by simp only [xNest, List.mem_cons]; exact Or.inr (Or.inr (Or.inr (Or.inr (Or.inr (Or.inr (Or.inl rfl))))))) rfl dX4_cutter_50 ?_
            refine x_if_eq (tgt := 60) hx hb dX4_cutter_53 (by decide) (by omega) (fun c_53 => ?_) (fun c_53 => absurd c_53 (by omega))
            refine lv_aload hx hb dX4_cutter_60 (lv_at hl 2 rfl) ?_
            refine lv_aload hx hb dX4_cutter_62 (lv_at hl 1 rfl) ?_
            refine x_getn (T := TX3) (N := 2) hx hb hts uX3 hown hN hK hP (i := 21 + 3 * t2) (by omega) hT_t2.1 rfl 0 (by decide) (by simp only [xNest, List.mem_cons]; exact Or.inr (Or.inr (Or.inr (Or.inr (Or.inr (Or.inl rfl)))))) rfl dX4_cutter_64 ?_
            refine lv_aload hx hb dX4_cutter_67 (lv_at hl 0 rfl) ?_
            refine x_getn (T := TX3) (N := 2) hx hb hts uX3 hown hN hK hP (i := 21 + 3 * t3) (by omega) hT_t3.1 rfl 0 (by decide) (by simp only [xNest, List.mem_cons]; exact Or.inr (Or.inr (Or.inr (Or.inr (Or.inr (Or.inl rfl)))))) rfl dX4_cutter_69 ?_
            refine lv_iload hx hb dX4_cutter_72 (lv_at hl 7 rfl) ?_
            refine xm_v (i := 45 + 4 * q1) (As := [.ref (ad (21 + 3 * t2 + 1)), .ref (ad (21 + 3 * t3 + 1)), .int (xb z4)]) (rest := []) ⟨hx, hb, hml, hown, hts⟩ hl.1 (c_X0_begin l D cA n ad en _ (by omega) hk_q1 (by omega) hr_t2 (by omega) hr_t3 (by omega) (by omega) z4) k_X0_begin u_ml_RX4_200 hK hN hP (by omega) hk_q1.1 rfl rfl rfl rfl (Nat.le_of_ble_eq_true rfl) ⟨Nat.le_of_ble_eq_true rfl, Nat.le_of_ble_eq_true rfl⟩ ⟨Nat.le_of_ble_eq_true rfl, Nat.le_of_ble_eq_true rfl⟩ dX4_cutter_74 hD hS hA (fun en1 H locs hp1 hP hS => ?_)
            obtain ⟨hk9, ho9⟩ := hp1
            have hC9 := hC.cutter h_q1 (ho9.mo (by omega) (by omega)) (XC.of (p := 0) hk9 rfl (Nat.zero_le _))
            have ho : xO 0 53 en en1 := ho9.mo (by omega) (by omega)
            refine lv_aload hx hb dX4_cutter_77 (lv_at hl 2 rfl) ?_
            have hlb := sp_left_b z4 (sp_sep r_t3.2 r_t3.1) r_t2.2 (r_t2.1 : Int) 0
            refine xv_i (i := 45 + 4 * q1) (As := []) (rest := []) ⟨hx, hb, hml, hown, hts⟩ hl.1 (c_X0_tokensLeft l D cA n ad en1 (by omega) hk9 (by omega)) k_X0_tokensLeft u_ml_RX4_204 hK hN hP (by omega) hk9.1 rfl rfl rfl rfl (Nat.le_of_ble_eq_true rfl) ⟨Nat.le_of_ble_eq_true rfl, Nat.le_of_ble_eq_true rfl⟩ ⟨Nat.le_of_ble_eq_true rfl, Nat.le_of_ble_eq_true rfl⟩ dX4_cutter_79 ?_
            exact xe_i hx hb hrt hlocks hP hS ((by unfold am_cutter; simp only [Int.toNat_natCast]; simp only [sp_get_s hS_t2, sp_get_s hS_t3]; rw [sp_if_f (by omega), sp_if_f (by simp [hS_t2, hS_t3])]; exact ⟨rfl, hC9, ho⟩)) dX4_cutter_82
        · have hC_q1 : XC cA ad en (45 + 4 * q1) (S.2.2.2 q1) := hC.rc h_q1
          obtain ⟨km_q1, kf_q1, kG_q1, kz_q1, kp_q1, hk_q1⟩ := hC_q1.any
          have hT_t2 : XT cA ad en (21 + 3 * t2) (some r_t2) := by have q : XT cA ad en (21 + 3 * t2) (S.2.1 t2) := hC.rt h_t2; rw [hS_t2] at q; exact q
          have hr_t2 := hT_t2.2
          have hm_t2 := hr_t2.2.2.1
          refine lv_aload_n hx hb dX4_cutter_0 rfl (lv_at hl 0 rfl) ?_
          refine lv_iload_n hx hb dX4_cutter_1 rfl (lv_at hl 1 rfl) ?_
          refine xv_q (i := 0) (As := [.int (xI (q1 : Int))]) (rest := []) ⟨hx, hb, hml, hown, hts⟩ hl.1 (c_X4_cutterOf_in l D cA n ad en (by omega) hC q1 (by omega)) k_X4_cutterOf u_ml_RX4_196 hK hN hP (by omega) hC.1 rfl rfl rfl rfl (Nat.le_of_ble_eq_true rfl) ⟨Nat.le_of_ble_eq_true rfl, Nat.le_of_ble_eq_true rfl⟩ ⟨Nat.le_of_ble_eq_true rfl, Nat.le_of_ble_eq_true rfl⟩ dX4_cutter_2 ?_
          refine lv_astore (lv' := [(5, .ref (ad (45 + 4 * q1))), (0, .ref (ad 0)), (1, .int (xI (q1 : Int))), (2, .int (xI (t2 : Int))), (3, .int (xI z3)), (4, .int (xb z4))]) hx hb dX4_cutter_5 hl (by decide) rfl (fun ls hl => ?_)
          refine lv_aload_n hx hb dX4_cutter_7 rfl (lv_at hl 1 rfl) ?_
          refine lv_iload_n hx hb dX4_cutter_8 rfl (lv_at hl 3 rfl) ?_
          refine xv_q (i := 0) (As := [.int (xI (t2 : Int))]) (rest := []) ⟨hx, hb, hml, hown, hts⟩ hl.1 (c_X4_textOf_in l D cA n ad en (by omega) hC t2 (by omega)) k_X4_textOf u_ml_RX4_97 hK hN hP (by omega) hC.1 rfl rfl rfl rfl (Nat.le_of_ble_eq_true rfl) ⟨Nat.le_of_ble_eq_true rfl, Nat.le_of_ble_eq_true rfl⟩ ⟨Nat.le_of_ble_eq_true rfl, Nat.le_of_ble_eq_true rfl⟩ dX4_cutter_9 ?_
          refine lv_astore (lv' := [(6, .ref (ad (21 + 3 * t2))), (5, .ref (ad (45 + 4 * q1))), (0, .ref (ad 0)), (1, .int (xI (q1 : Int))), (2, .int (xI (t2 : Int))), (3, .int (xI z3)), (4, .int (xb z4))]) hx hb dX4_cutter_12 hl (by decide) rfl (fun ls hl => ?_)
          refine lv_aload_n hx hb dX4_cutter_14 rfl (lv_at hl 2 rfl) ?_
          refine lv_iload_n hx hb dX4_cutter_15 rfl (lv_at hl 5 rfl) ?_
          refine xv_q (i := 0) (As := [.int (xI z3)]) (rest := []) ⟨hx, hb, hml, hown, hts⟩ hl.1 (c_X4_textOf_out l D cA n ad en (by omega) hC z3 (by omega) (by omega)) k_X4_textOf u_ml_RX4_97 hK hN hP (by omega) hC.1 rfl rfl rfl rfl (Nat.le_of_ble_eq_true rfl) ⟨Nat.le_of_ble_eq_true rfl, Nat.le_of_ble_eq_true rfl⟩ ⟨Nat.le_of_ble_eq_true rfl, Nat.le_of_ble_eq_true rfl⟩ dX4_cutter_16 ?_
          refine lv_astoreN (lv' := [(7, .null), (6, .ref (ad (21 + 3 * t2))), (5, .ref (ad (45 + 4 * q1))), (0, .ref (ad 0)), (1, .int (xI (q1 : Int))), (2, .int (xI (t2 : Int))), (3, .int (xI z3)), (4, .int (xb z4))]) hx hb dX4_cutter_19 hl (by decide) rfl (fun ls hl => ?_)
          refine lv_aload hx hb dX4_cutter_21 (lv_at hl 2 rfl) ?_
          refine lv_ifnull hx hb dX4_cutter_23 ?_
          refine lv_aload hx hb dX4_cutter_26 (lv_at hl 1 rfl) ?_
          refine lv_ifnull hx hb dX4_cutter_28 ?_
          refine lv_aloadN hx hb dX4_cutter_31 (lv_at hl 0 rfl) ?_
          refine lv_ifnonnullN hx hb dX4_cutter_33 ?_
          refine x_sipush hx hb dX4_cutter_36 (by decide +kernel) ?_
          exact xe_i hx hb hrt hlocks hP hS ((by unfold am_cutter; simp only [Int.toNat_natCast]; simp only [sp_get_s hS_t2]; rw [sp_if_t (by omega)]; exact ⟨rfl, hC, xO.rf⟩)) dX4_cutter_39
    · rcases Classical.em (0 ≤ z3 ∧ z3 < 8) with hx_z3 | hx_z3
      · obtain ⟨t3, rfl⟩ : ∃ q : Nat, z3 = (q : Int) := ⟨z3.toNat, by omega⟩
        have h_t3 : t3 < 8 := by omega
        rcases hS_t3 : S.2.1 t3 with _ | r_t3
        · have hC_q1 : XC cA ad en (45 + 4 * q1) (S.2.2.2 q1) := hC.rc h_q1
          obtain ⟨km_q1, kf_q1, kG_q1, kz_q1, kp_q1, hk_q1⟩ := hC_q1.any
          have hT_t3 : XT cA ad en (21 + 3 * t3) none := by have q : XT cA ad en (21 + 3 * t3) (S.2.1 t3) := hC.rt h_t3; rw [hS_t3] at q; exact q
          refine lv_aload_n hx hb dX4_cutter_0 rfl (lv_at hl 0 rfl) ?_
          refine lv_iload_n hx hb dX4_cutter_1 rfl (lv_at hl 1 rfl) ?_
          refine xv_q (i := 0) (As := [.int (xI (q1 : Int))]) (rest := []) ⟨hx, hb, hml, hown, hts⟩ hl.1 (c_X4_cutterOf_in l D cA n ad en (by omega) hC q1 (by omega)) k_X4_cutterOf u_ml_RX4_196 hK hN hP (by omega) hC.1 rfl rfl rfl rfl (Nat.le_of_ble_eq_true rfl) ⟨Nat.le_of_ble_eq_true rfl, Nat.le_of_ble_eq_true rfl⟩ ⟨Nat.le_of_ble_eq_true rfl, Nat.le_of_ble_eq_true rfl⟩ dX4_cutter_2 ?_
          refine lv_astore (lv' := [(5, .ref (ad (45 + 4 * q1))), (0, .ref (ad 0)), (1, .int (xI (q1 : Int))), (2, .int (xI z2)), (3, .int (xI (t3 : Int))), (4, .int (xb z4))]) hx hb dX4_cutter_5 hl (by decide) rfl (fun ls hl => ?_)
          refine lv_aload_n hx hb dX4_cutter_7 rfl (lv_at hl 1 rfl) ?_
          refine lv_iload_n hx hb dX4_cutter_8 rfl (lv_at hl 3 rfl) ?_
          refine xv_q (i := 0) (As := [.int (xI z2)]) (rest := []) ⟨hx, hb, hml, hown, hts⟩ hl.1 (c_X4_textOf_out l D cA n ad en (by omega) hC z2 (by omega) (by omega)) k_X4_textOf u_ml_RX4_97 hK hN hP (by omega) hC.1 rfl rfl rfl rfl (Nat.le_of_ble_eq_true rfl) ⟨Nat.le_of_ble_eq_true rfl, Nat.le_of_ble_eq_true rfl⟩ ⟨Nat.le_of_ble_eq_true rfl, Nat.le_of_ble_eq_true rfl⟩ dX4_cutter_9 ?_
          refine lv_astoreN (lv' := [(6, .null), (5, .ref (ad (45 + 4 * q1))), (0, .ref (ad 0)), (1, .int (xI (q1 : Int))), (2, .int (xI z2)), (3, .int (xI (t3 : Int))), (4, .int (xb z4))]) hx hb dX4_cutter_12 hl (by decide) rfl (fun ls hl => ?_)
          refine lv_aload_n hx hb dX4_cutter_14 rfl (lv_at hl 2 rfl) ?_
          refine lv_iload_n hx hb dX4_cutter_15 rfl (lv_at hl 5 rfl) ?_
          refine xv_q (i := 0) (As := [.int (xI (t3 : Int))]) (rest := []) ⟨hx, hb, hml, hown, hts⟩ hl.1 (c_X4_textOf_in l D cA n ad en (by omega) hC t3 (by omega)) k_X4_textOf u_ml_RX4_97 hK hN hP (by omega) hC.1 rfl rfl rfl rfl (Nat.le_of_ble_eq_true rfl) ⟨Nat.le_of_ble_eq_true rfl, Nat.le_of_ble_eq_true rfl⟩ ⟨Nat.le_of_ble_eq_true rfl, Nat.le_of_ble_eq_true rfl⟩ dX4_cutter_16 ?_
          refine lv_astore (lv' := [(7, .ref (ad (21 + 3 * t3))), (6, .null), (5, .ref (ad (45 + 4 * q1))), (0, .ref (ad 0)), (1, .int (xI (q1 : Int))), (2, .int (xI z2)), (3, .int (xI (t3 : Int))), (4, .int (xb z4))]) hx hb dX4_cutter_19 hl (by decide) rfl (fun ls hl => ?_)
          refine lv_aload hx hb dX4_cutter_21 (lv_at hl 2 rfl) ?_
          refine lv_ifnull hx hb dX4_cutter_23 ?_
          refine lv_aloadN hx hb dX4_cutter_26 (lv_at hl 1 rfl) ?_
          refine lv_ifnullN (tgt := 36) hx hb dX4_cutter_28 (by decide) ?_
          refine x_sipush hx hb dX4_cutter_36 (by decide +kernel) ?_
          exact xe_i hx hb hrt hlocks hP hS ((by unfold am_cutter; simp only [Int.toNat_natCast]; rw [sp_if_t (by omega)]; exact ⟨rfl, hC, xO.rf⟩)) dX4_cutter_39
        · have hC_q1 : XC cA ad en (45 + 4 * q1) (S.2.2.2 q1) := hC.rc h_q1
          obtain ⟨km_q1, kf_q1, kG_q1, kz_q1, kp_q1, hk_q1⟩ := hC_q1.any
          have hT_t3 : XT cA ad en (21 + 3 * t3) (some r_t3) := by have q : XT cA ad en (21 + 3 * t3) (S.2.1 t3) := hC.rt h_t3; rw [hS_t3] at q; exact q
          have hr_t3 := hT_t3.2
          have hm_t3 := hr_t3.2.2.1
          refine lv_aload_n hx hb dX4_cutter_0 rfl (lv_at hl 0 rfl) ?_
          refine lv_iload_n hx hb dX4_cutter_1 rfl (lv_at hl 1 rfl) ?_
          refine xv_q (i := 0) (As := [.int (xI (q1 : Int))]) (rest := []) ⟨hx, hb, hml, hown, hts⟩ hl.1 (c_X4_cutterOf_in l D cA n ad en (by omega) hC q1 (by omega)) k_X4_cutterOf u_ml_RX4_196 hK hN hP (by omega) hC.1 rfl rfl rfl rfl (Nat.le_of_ble_eq_true rfl) ⟨Nat.le_of_ble_eq_true rfl, Nat.le_of_ble_eq_true rfl⟩ ⟨Nat.le_of_ble_eq_true rfl, Nat.le_of_ble_eq_true rfl⟩ dX4_cutter_2 ?_
          refine lv_astore (lv' := [(5, .ref (ad (45 + 4 * q1))), (0, .ref (ad 0)), (1, .int (xI (q1 : Int))), (2, .int (xI z2)), (3, .int (xI (t3 : Int))), (4, .int (xb z4))]) hx hb dX4_cutter_5 hl (by decide) rfl (fun ls hl => ?_)
          refine lv_aload_n hx hb dX4_cutter_7 rfl (lv_at hl 1 rfl) ?_
          refine lv_iload_n hx hb dX4_cutter_8 rfl (lv_at hl 3 rfl) ?_
          refine xv_q (i := 0) (As := [.int (xI z2)]) (rest := []) ⟨hx, hb, hml, hown, hts⟩ hl.1 (c_X4_textOf_out l D cA n ad en (by omega) hC z2 (by omega) (by omega)) k_X4_textOf u_ml_RX4_97 hK hN hP (by omega) hC.1 rfl rfl rfl rfl (Nat.le_of_ble_eq_true rfl) ⟨Nat.le_of_ble_eq_true rfl, Nat.le_of_ble_eq_true rfl⟩ ⟨Nat.le_of_ble_eq_true rfl, Nat.le_of_ble_eq_true rfl⟩ dX4_cutter_9 ?_
          refine lv_astoreN (lv' := [(6, .null), (5, .ref (ad (45 + 4 * q1))), (0, .ref (ad 0)), (1, .int (xI (q1 : Int))), (2, .int (xI z2)), (3, .int (xI (t3 : Int))), (4, .int (xb z4))]) hx hb dX4_cutter_12 hl (by decide) rfl (fun ls hl => ?_)
          refine lv_aload_n hx hb dX4_cutter_14 rfl (lv_at hl 2 rfl) ?_
          refine lv_iload_n hx hb dX4_cutter_15 rfl (lv_at hl 5 rfl) ?_
          refine xv_q (i := 0) (As := [.int (xI (t3 : Int))]) (rest := []) ⟨hx, hb, hml, hown, hts⟩ hl.1 (c_X4_textOf_in l D cA n ad en (by omega) hC t3 (by omega)) k_X4_textOf u_ml_RX4_97 hK hN hP (by omega) hC.1 rfl rfl rfl rfl (Nat.le_of_ble_eq_true rfl) ⟨Nat.le_of_ble_eq_true rfl, Nat.le_of_ble_eq_true rfl⟩ ⟨Nat.le_of_ble_eq_true rfl, Nat.le_of_ble_eq_true rfl⟩ dX4_cutter_16 ?_
          refine lv_astore (lv' := [(7, .ref (ad (21 + 3 * t3))), (6, .null), (5, .ref (ad (45 + 4 * q1))), (0, .ref (ad 0)), (1, .int (xI (q1 : Int))), (2, .int (xI z2)), (3, .int (xI (t3 : Int))), (4, .int (xb z4))]) hx hb dX4_cutter_19 hl (by decide) rfl (fun ls hl => ?_)
          refine lv_aload hx hb dX4_cutter_21 (lv_at hl 2 rfl) ?_
          refine lv_ifnull hx hb dX4_cutter_23 ?_
          refine lv_aloadN hx hb dX4_cutter_26 (lv_at hl 1 rfl) ?_
          refine lv_ifnullN (tgt := 36) hx hb dX4_cutter_28 (by decide) ?_
          refine x_sipush hx hb dX4_cutter_36 (by decide +kernel) ?_
          exact xe_i hx hb hrt hlocks hP hS ((by unfold am_cutter; simp only [Int.toNat_natCast]; simp only [sp_get_s hS_t3]; rw [sp_if_t (by omega)]; exact ⟨rfl, hC, xO.rf⟩)) dX4_cutter_39
      · have hC_q1 : XC cA ad en (45 + 4 * q1) (S.2.2.2 q1) := hC.rc h_q1
        obtain ⟨km_q1, kf_q1, kG_q1, kz_q1, kp_q1, hk_q1⟩ := hC_q1.any
        refine lv_aload_n hx hb dX4_cutter_0 rfl (lv_at hl 0 rfl) ?_
        refine lv_iload_n hx hb dX4_cutter_1 rfl (lv_at hl 1 rfl) ?_
        refine xv_q (i := 0) (As := [.int (xI (q1 : Int))]) (rest := []) ⟨hx, hb, hml, hown, hts⟩ hl.1 (c_X4_cutterOf_in l D cA n ad en (by omega) hC q1 (by omega)) k_X4_cutterOf u_ml_RX4_196 hK hN hP (by omega) hC.1 rfl rfl rfl rfl (Nat.le_of_ble_eq_true rfl) ⟨Nat.le_of_ble_eq_true rfl, Nat.le_of_ble_eq_true rfl⟩ ⟨Nat.le_of_ble_eq_true rfl, Nat.le_of_ble_eq_true rfl⟩ dX4_cutter_2 ?_
        refine lv_astore (lv' := [(5, .ref (ad (45 + 4 * q1))), (0, .ref (ad 0)), (1, .int (xI (q1 : Int))), (2, .int (xI z2)), (3, .int (xI z3)), (4, .int (xb z4))]) hx hb dX4_cutter_5 hl (by decide) rfl (fun ls hl => ?_)
        refine lv_aload_n hx hb dX4_cutter_7 rfl (lv_at hl 1 rfl) ?_
        refine lv_iload_n hx hb dX4_cutter_8 rfl (lv_at hl 3 rfl) ?_
        refine xv_q (i := 0) (As := [.int (xI z2)]) (rest := []) ⟨hx, hb, hml, hown, hts⟩ hl.1 (c_X4_textOf_out l D cA n ad en (by omega) hC z2 (by omega) (by omega)) k_X4_textOf u_ml_RX4_97 hK hN hP (by omega) hC.1 rfl rfl rfl rfl (Nat.le_of_ble_eq_true rfl) ⟨Nat.le_of_ble_eq_true rfl, Nat.le_of_ble_eq_true rfl⟩ ⟨Nat.le_of_ble_eq_true rfl, Nat.le_of_ble_eq_true rfl⟩ dX4_cutter_9 ?_
        refine lv_astoreN (lv' := [(6, .null), (5, .ref (ad (45 + 4 * q1))), (0, .ref (ad 0)), (1, .int (xI (q1 : Int))), (2, .int (xI z2)), (3, .int (xI z3)), (4, .int (xb z4))]) hx hb dX4_cutter_12 hl (by decide) rfl (fun ls hl => ?_)
        refine lv_aload_n hx hb dX4_cutter_14 rfl (lv_at hl 2 rfl) ?_
        refine lv_iload_n hx hb dX4_cutter_15 rfl (lv_at hl 5 rfl) ?_
        refine xv_q (i := 0) (As := [.int (xI z3)]) (rest := []) ⟨hx, hb, hml, hown, hts⟩ hl.1 (c_X4_textOf_out l D cA n ad en (by omega) hC z3 (by omega) (by omega)) k_X4_textOf u_ml_RX4_97 hK hN hP (by omega) hC.1 rfl rfl rfl rfl (Nat.le_of_ble_eq_true rfl) ⟨Nat.le_of_ble_eq_true rfl, Nat.le_of_ble_eq_true rfl⟩ ⟨Nat.le_of_ble_eq_true rfl, Nat.le_of_ble_eq_true rfl⟩ dX4_cutter_16 ?_
        refine lv_astoreN (lv' := [(7, .null), (6, .null), (5, .ref (ad (45 + 4 * q1))), (0, .ref (ad 0)), (1, .int (xI (q1 : Int))), (2, .int (xI z2)), (3, .int (xI z3)), (4, .int (xb z4))]) hx hb dX4_cutter_19 hl (by decide) rfl (fun ls hl => ?_)
        refine lv_aload hx hb dX4_cutter_21 (lv_at hl 2 rfl) ?_
        refine lv_ifnull hx hb dX4_cutter_23 ?_
        refine lv_aloadN hx hb dX4_cutter_26 (lv_at hl 1 rfl) ?_
        refine lv_ifnullN (tgt := 36) hx hb dX4_cutter_28 (by decide) ?_
        refine x_sipush hx hb dX4_cutter_36 (by decide +kernel) ?_
        exact xe_i hx hb hrt hlocks hP hS ((by unfold am_cutter; simp only [Int.toNat_natCast]; rw [sp_if_t (by omega)]; exact ⟨rfl, hC, xO.rf⟩)) dX4_cutter_39
  · rcases Classical.em (0 ≤ z2 ∧ z2 < 8) with hx_z2 | hx_z2
    · obtain ⟨t2, rfl⟩ : ∃ q : Nat, z2 = (q : Int) := ⟨z2.toNat, by omega⟩
      have h_t2 : t2 < 8 := by omega
      rcases hS_t2 : S.2.1 t2 with _ | r_t2
      · rcases Classical.em (0 ≤ z3 ∧ z3 < 8) with hx_z3 | hx_z3
        · obtain ⟨t3, rfl⟩ : ∃ q : Nat, z3 = (q : Int) := ⟨z3.toNat, by omega⟩
          have h_t3 : t3 < 8 := by omega
          rcases hS_t3 : S.2.1 t3 with _ | r_t3
          · have hT_t2 : XT cA ad en (21 + 3 * t2) none := by have q : XT cA ad en (21 + 3 * t2) (S.2.1 t2) := hC.rt h_t2; rw [hS_t2] at q; exact q
            have hT_t3 : XT cA ad en (21 + 3 * t3) none := by have q : XT cA ad en (21 + 3 * t3) (S.2.1 t3) := hC.rt h_t3; rw [hS_t3] at q; exact q
            refine lv_aload_n hx hb dX4_cutter_0 rfl (lv_at hl 0 rfl) ?_
            refine lv_iload_n hx hb dX4_cutter_1 rfl (lv_at hl 1 rfl) ?_
            refine xv_q (i := 0) (As := [.int (xI z1)]) (rest := []) ⟨hx, hb, hml, hown, hts⟩ hl.1 (c_X4_cutterOf_out l D cA n ad en (by omega) hC z1 (by omega) (by omega)) k_X4_cutterOf u_ml_RX4_196 hK hN hP (by omega) hC.1 rfl rfl rfl rfl (Nat.le_of_ble_eq_true rfl) ⟨Nat.le_of_ble_eq_true rfl, Nat.le_of_ble_eq_true rfl⟩ ⟨Nat.le_of_ble_eq_true rfl, Nat.le_of_ble_eq_true rfl⟩ dX4_cutter_2 ?_
            refine lv_astoreN (lv' := [(5, .null), (0, .ref (ad 0)), (1, .int (xI z1)), (2, .int (xI (t2 : Int))), (3, .int (xI (t3 : Int))), (4, .int (xb z4))]) hx hb dX4_cutter_5 hl (by decide) rfl (fun ls hl => ?_)
            refine lv_aload_n hx hb dX4_cutter_7 rfl (lv_at hl 1 rfl) ?_
            refine lv_iload_n hx hb dX4_cutter_8 rfl (lv_at hl 3 rfl) ?_
            refine xv_q (i := 0) (As := [.int (xI (t2 : Int))]) (rest := []) ⟨hx, hb, hml, hown, hts⟩ hl.1 (c_X4_textOf_in l D cA n ad en (by omega) hC t2 (by omega)) k_X4_textOf u_ml_RX4_97 hK hN hP (by omega) hC.1 rfl rfl rfl rfl (Nat.le_of_ble_eq_true rfl) ⟨Nat.le_of_ble_eq_true rfl, Nat.le_of_ble_eq_true rfl⟩ ⟨Nat.le_of_ble_eq_true rfl, Nat.le_of_ble_eq_true rfl⟩ dX4_cutter_9 ?_
            refine lv_astore (lv' := [(6, .ref (ad (21 + 3 * t2))), (5, .null), (0, .ref (ad 0)), (1, .int (xI z1)), (2, .int (xI (t2 : Int))), (3, .int (xI (t3 : Int))), (4, .int (xb z4))]) hx hb dX4_cutter_12 hl (by decide) rfl (fun ls hl => ?_)
            refine lv_aload_n hx hb dX4_cutter_14 rfl (lv_at hl 2 rfl) ?_
            refine lv_iload_n hx hb dX4_cutter_15 rfl (lv_at hl 5 rfl) ?_
            refine xv_q (i := 0) (As := [.int (xI (t3 : Int))]) (rest := []) ⟨hx, hb, hml, hown, hts⟩ hl.1 (c_X4_textOf_in l D cA n ad en (by omega) hC t3 (by omega)) k_X4_textOf u_ml_RX4_97 hK hN hP (by omega) hC.1 rfl rfl rfl rfl (Nat.le_of_ble_eq_true rfl) ⟨Nat.le_of_ble_eq_true rfl, Nat.le_of_ble_eq_true rfl⟩ ⟨Nat.le_of_ble_eq_true rfl, Nat.le_of_ble_eq_true rfl⟩ dX4_cutter_16 ?_
            refine lv_astore (lv' := [(7, .ref (ad (21 + 3 * t3))), (6, .ref (ad (21 + 3 * t2))), (5, .null), (0, .ref (ad 0)), (1, .int (xI z1)), (2, .int (xI (t2 : Int))), (3, .int (xI (t3 : Int))), (4, .int (xb z4))]) hx hb dX4_cutter_19 hl (by decide) rfl (fun ls hl => ?_)
            refine lv_aloadN hx hb dX4_cutter_21 (lv_at hl 2 rfl) ?_
            refine lv_ifnullN (tgt := 36) hx hb dX4_cutter_23 (by decide) ?_
            refine x_sipush hx hb dX4_cutter_36 (by decide +kernel) ?_
            exact xe_i hx hb hrt hlocks hP hS ((by unfold am_cutter; simp only [Int.toNat_natCast]; rw [sp_if_t (by omega)]; exact ⟨rfl, hC, xO.rf⟩)) dX4_cutter_39
          · have hT_t2 : XT cA ad en (21 + 3 * t2) none := by have q : XT cA ad en (21 + 3 * t2) (S.2.1 t2) := hC.rt h_t2; rw [hS_t2] at q; exact q
            have hT_t3 : XT cA ad en (21 + 3 * t3) (some r_t3) := by have q : XT cA ad en (21 + 3 * t3) (S.2.1 t3) := hC.rt h_t3; rw [hS_t3] at q; exact q
            have hr_t3 := hT_t3.2
            have hm_t3 := hr_t3.2.2.1
            refine lv_aload_n hx hb dX4_cutter_0 rfl (lv_at hl 0 rfl) ?_
            refine lv_iload_n hx hb dX4_cutter_1 rfl (lv_at hl 1 rfl) ?_
            refine xv_q (i := 0) (As := [.int (xI z1)]) (rest := []) ⟨hx, hb, hml, hown, hts⟩ hl.1 (c_X4_cutterOf_out l D cA n ad en (by omega) hC z1 (by omega) (by omega)) k_X4_cutterOf u_ml_RX4_196 hK hN hP (by omega) hC.1 rfl rfl rfl rfl (Nat.le_of_ble_eq_true rfl) ⟨Nat.le_of_ble_eq_true rfl, Nat.le_of_ble_eq_true rfl⟩ ⟨Nat.le_of_ble_eq_true rfl, Nat.le_of_ble_eq_true rfl⟩ dX4_cutter_2 ?_
            refine lv_astoreN (lv' := [(5, .null), (0, .ref (ad 0)), (1, .int (xI z1)), (2, .int (xI (t2 : Int))), (3, .int (xI (t3 : Int))), (4, .int (xb z4))]) hx hb dX4_cutter_5 hl (by decide) rfl (fun ls hl => ?_)
            refine lv_aload_n hx hb dX4_cutter_7 rfl (lv_at hl 1 rfl) ?_
            refine lv_iload_n hx hb dX4_cutter_8 rfl (lv_at hl 3 rfl) ?_
            refine xv_q (i := 0) (As := [.int (xI (t2 : Int))]) (rest := []) ⟨hx, hb, hml, hown, hts⟩ hl.1 (c_X4_textOf_in l D cA n ad en (by omega) hC t2 (by omega)) k_X4_textOf u_ml_RX4_97 hK hN hP (by omega) hC.1 rfl rfl rfl rfl (Nat.le_of_ble_eq_true rfl) ⟨Nat.le_of_ble_eq_true rfl, Nat.le_of_ble_eq_true rfl⟩ ⟨Nat.le_of_ble_eq_true rfl, Nat.le_of_ble_eq_true rfl⟩ dX4_cutter_9 ?_
            refine lv_astore (lv' := [(6, .ref (ad (21 + 3 * t2))), (5, .null), (0, .ref (ad 0)), (1, .int (xI z1)), (2, .int (xI (t2 : Int))), (3, .int (xI (t3 : Int))), (4, .int (xb z4))]) hx hb dX4_cutter_12 hl (by decide) rfl (fun ls hl => ?_)
            refine lv_aload_n hx hb dX4_cutter_14 rfl (lv_at hl 2 rfl) ?_
            refine lv_iload_n hx hb dX4_cutter_15 rfl (lv_at hl 5 rfl) ?_
            refine xv_q (i := 0) (As := [.int (xI (t3 : Int))]) (rest := []) ⟨hx, hb, hml, hown, hts⟩ hl.1 (c_X4_textOf_in l D cA n ad en (by omega) hC t3 (by omega)) k_X4_textOf u_ml_RX4_97 hK hN hP (by omega) hC.1 rfl rfl rfl rfl (Nat.le_of_ble_eq_true rfl) ⟨Nat.le_of_ble_eq_true rfl, Nat.le_of_ble_eq_true rfl⟩ ⟨Nat.le_of_ble_eq_true rfl, Nat.le_of_ble_eq_true rfl⟩ dX4_cutter_16 ?_
            refine lv_astore (lv' := [(7, .ref (ad (21 + 3 * t3))), (6, .ref (ad (21 + 3 * t2))), (5, .null), (0, .ref (ad 0)), (1, .int (xI z1)), (2, .int (xI (t2 : Int))), (3, .int (xI (t3 : Int))), (4, .int (xb z4))]) hx hb dX4_cutter_19 hl (by decide) rfl (fun ls hl => ?_)
            refine lv_aloadN hx hb dX4_cutter_21 (lv_at hl 2 rfl) ?_
            refine lv_ifnullN (tgt := 36) hx hb dX4_cutter_23 (by decide) ?_
            refine x_sipush hx hb dX4_cutter_36 (by decide +kernel) ?_
            exact xe_i hx hb hrt hlocks hP hS ((by unfold am_cutter; simp only [Int.toNat_natCast]; simp only [sp_get_s hS_t3]; rw [sp_if_t (by omega)]; exact ⟨rfl, hC, xO.rf⟩)) dX4_cutter_39
        · have hT_t2 : XT cA ad en (21 + 3 * t2) none := by have q : XT cA ad en (21 + 3 * t2) (S.2.1 t2) := hC.rt h_t2; rw [hS_t2] at q; exact q
          refine lv_aload_n hx hb dX4_cutter_0 rfl (lv_at hl 0 rfl) ?_
          refine lv_iload_n hx hb dX4_cutter_1 rfl (lv_at hl 1 rfl) ?_
          refine xv_q (i := 0) (As := [.int (xI z1)]) (rest := []) ⟨hx, hb, hml, hown, hts⟩ hl.1 (c_X4_cutterOf_out l D cA n ad en (by omega) hC z1 (by omega) (by omega)) k_X4_cutterOf u_ml_RX4_196 hK hN hP (by omega) hC.1 rfl rfl rfl rfl (Nat.le_of_ble_eq_true rfl) ⟨Nat.le_of_ble_eq_true rfl, Nat.le_of_ble_eq_true rfl⟩ ⟨Nat.le_of_ble_eq_true rfl, Nat.le_of_ble_eq_true rfl⟩ dX4_cutter_2 ?_
          refine lv_astoreN (lv' := [(5, .null), (0, .ref (ad 0)), (1, .int (xI z1)), (2, .int (xI (t2 : Int))), (3, .int (xI z3)), (4, .int (xb z4))]) hx hb dX4_cutter_5 hl (by decide) rfl (fun ls hl => ?_)
          refine lv_aload_n hx hb dX4_cutter_7 rfl (lv_at hl 1 rfl) ?_
          refine lv_iload_n hx hb dX4_cutter_8 rfl (lv_at hl 3 rfl) ?_
          refine xv_q (i := 0) (As := [.int (xI (t2 : Int))]) (rest := []) ⟨hx, hb, hml, hown, hts⟩ hl.1 (c_X4_textOf_in l D cA n ad en (by omega) hC t2 (by omega)) k_X4_textOf u_ml_RX4_97 hK hN hP (by omega) hC.1 rfl rfl rfl rfl (Nat.le_of_ble_eq_true rfl) ⟨Nat.le_of_ble_eq_true rfl, Nat.le_of_ble_eq_true rfl⟩ ⟨Nat.le_of_ble_eq_true rfl, Nat.le_of_ble_eq_true rfl⟩ dX4_cutter_9 ?_
          refine lv_astore (lv' := [(6, .ref (ad (21 + 3 * t2))), (5, .null), (0, .ref (ad 0)), (1, .int (xI z1)), (2, .int (xI (t2 : Int))), (3, .int (xI z3)), (4, .int (xb z4))]) hx hb dX4_cutter_12 hl (by decide) rfl (fun ls hl => ?_)
          refine lv_aload_n hx hb dX4_cutter_14 rfl (lv_at hl 2 rfl) ?_
          refine lv_iload_n hx hb dX4_cutter_15 rfl (lv_at hl 5 rfl) ?_
          refine xv_q (i := 0) (As := [.int (xI z3)]) (rest := []) ⟨hx, hb, hml, hown, hts⟩ hl.1 (c_X4_textOf_out l D cA n ad en (by omega) hC z3 (by omega) (by omega)) k_X4_textOf u_ml_RX4_97 hK hN hP (by omega) hC.1 rfl rfl rfl rfl (Nat.le_of_ble_eq_true rfl) ⟨Nat.le_of_ble_eq_true rfl, Nat.le_of_ble_eq_true rfl⟩ ⟨Nat.le_of_ble_eq_true rfl, Nat.le_of_ble_eq_true rfl⟩ dX4_cutter_16 ?_
          refine lv_astoreN (lv' := [(7, .null), (6, .ref (ad (21 + 3 * t2))), (5, .null), (0, .ref (ad 0)), (1, .int (xI z1)), (2, .int (xI (t2 : Int))), (3, .int (xI z3)), (4, .int (xb z4))]) hx hb dX4_cutter_19 hl (by decide) rfl (fun ls hl => ?_)
          refine lv_aloadN hx hb dX4_cutter_21 (lv_at hl 2 rfl) ?_
          refine lv_ifnullN (tgt := 36) hx hb dX4_cutter_23 (by decide) ?_
          refine x_sipush hx hb dX4_cutter_36 (by decide +kernel) ?_
          exact xe_i hx hb hrt hlocks hP hS ((by unfold am_cutter; simp only [Int.toNat_natCast]; rw [sp_if_t (by omega)]; exact ⟨rfl, hC, xO.rf⟩)) dX4_cutter_39
      · rcases Classical.em (0 ≤ z3 ∧ z3 < 8) with hx_z3 | hx_z3
        · obtain ⟨t3, rfl⟩ : ∃ q : Nat, z3 = (q : Int) := ⟨z3.toNat, by omega⟩
          have h_t3 : t3 < 8 := by omega
          rcases hS_t3 : S.2.1 t3 with _ | r_t3
          · have hT_t2 : XT cA ad en (21 + 3 * t2) (some r_t2) := by have q : XT cA ad en (21 + 3 * t2) (S.2.1 t2) := hC.rt h_t2; rw [hS_t2] at q; exact q
            have hr_t2 := hT_t2.2
            have hm_t2 := hr_t2.2.2.1
            have hT_t3 : XT cA ad en (21 + 3 * t3) none := by have q : XT cA ad en (21 + 3 * t3) (S.2.1 t3) := hC.rt h_t3; rw [hS_t3] at q; exact q
            refine lv_aload_n hx hb dX4_cutter_0 rfl (lv_at hl 0 rfl) ?_
            refine lv_iload_n hx hb dX4_cutter_1 rfl (lv_at hl 1 rfl) ?_
            refine xv_q (i := 0) (As := [.int (xI z1)]) (rest := []) ⟨hx, hb, hml, hown, hts⟩ hl.1 (c_X4_cutterOf_out l D cA n ad en (by omega) hC z1 (by omega) (by omega)) k_X4_cutterOf u_ml_RX4_196 hK hN hP (by omega) hC.1 rfl rfl rfl rfl (Nat.le_of_ble_eq_true rfl) ⟨Nat.le_of_ble_eq_true rfl, Nat.le_of_ble_eq_true rfl⟩ ⟨Nat.le_of_ble_eq_true rfl, Nat.le_of_ble_eq_true rfl⟩ dX4_cutter_2 ?_
            refine lv_astoreN (lv' := [(5, .null), (0, .ref (ad 0)), (1, .int (xI z1)), (2, .int (xI (t2 : Int))), (3, .int (xI (t3 : Int))), (4, .int (xb z4))]) hx hb dX4_cutter_5 hl (by decide) rfl (fun ls hl => ?_)
            refine lv_aload_n hx hb dX4_cutter_7 rfl (lv_at hl 1 rfl) ?_
            refine lv_iload_n hx hb dX4_cutter_8 rfl (lv_at hl 3 rfl) ?_
            refine xv_q (i := 0) (As := [.int (xI (t2 : Int))]) (rest := []) ⟨hx, hb, hml, hown, hts⟩ hl.1 (c_X4_textOf_in l D cA n ad en (by omega) hC t2 (by omega)) k_X4_textOf u_ml_RX4_97 hK hN hP (by omega) hC.1 rfl rfl rfl rfl (Nat.le_of_ble_eq_true rfl) ⟨Nat.le_of_ble_eq_true rfl, Nat.le_of_ble_eq_true rfl⟩ ⟨Nat.le_of_ble_eq_true rfl, Nat.le_of_ble_eq_true rfl⟩ dX4_cutter_9 ?_
            refine lv_astore (lv' := [(6, .ref (ad (21 + 3 * t2))), (5, .null), (0, .ref (ad 0)), (1, .int (xI z1)), (2, .int (xI (t2 : Int))), (3, .int (xI (t3 : Int))), (4, .int (xb z4))]) hx hb dX4_cutter_12 hl (by decide) rfl (fun ls hl => ?_)
            refine lv_aload_n hx hb dX4_cutter_14 rfl (lv_at hl 2 rfl) ?_
            refine lv_iload_n hx hb dX4_cutter_15 rfl (lv_at hl 5 rfl) ?_
            refine xv_q (i := 0) (As := [.int (xI (t3 : Int))]) (rest := []) ⟨hx, hb, hml, hown, hts⟩ hl.1 (c_X4_textOf_in l D cA n ad en (by omega) hC t3 (by omega)) k_X4_textOf u_ml_RX4_97 hK hN hP (by omega) hC.1 rfl rfl rfl rfl (Nat.le_of_ble_eq_true rfl) ⟨Nat.le_of_ble_eq_true rfl, Nat.le_of_ble_eq_true rfl⟩ ⟨Nat.le_of_ble_eq_true rfl, Nat.le_of_ble_eq_true rfl⟩ dX4_cutter_16 ?_
            refine lv_astore (lv' := [(7, .ref (ad (21 + 3 * t3))), (6, .ref (ad (21 + 3 * t2))), (5, .null), (0, .ref (ad 0)), (1, .int (xI z1)), (2, .int (xI (t2 : Int))), (3, .int (xI (t3 : Int))), (4, .int (xb z4))]) hx hb dX4_cutter_19 hl (by decide) rfl (fun ls hl => ?_)
            refine lv_aloadN hx hb dX4_cutter_21 (lv_at hl 2 rfl) ?_
            refine lv_ifnullN (tgt := 36) hx hb dX4_cutter_23 (by decide) ?_
            refine x_sipush hx hb dX4_cutter_36 (by decide +kernel) ?_
            exact xe_i hx hb hrt hlocks hP hS ((by unfold am_cutter; simp only [Int.toNat_natCast]; simp only [sp_get_s hS_t2]; rw [sp_if_t (by omega)]; exact ⟨rfl, hC, xO.rf⟩)) dX4_cutter_39
          · have hT_t2 : XT cA ad en (21 + 3 * t2) (some r_t2) := by have q : XT cA ad en (21 + 3 * t2) (S.2.1 t2) := hC.rt h_t2; rw [hS_t2] at q; exact q
            have hr_t2 := hT_t2.2
            have hm_t2 := hr_t2.2.2.1
            have hT_t3 : XT cA ad en (21 + 3 * t3) (some r_t3) := by have q : XT cA ad en (21 + 3 * t3) (S.2.1 t3) := hC.rt h_t3; rw [hS_t3] at q; exact q
            have hr_t3 := hT_t3.2
            have hm_t3 := hr_t3.2.2.1
            refine lv_aload_n hx hb dX4_cutter_0 rfl (lv_at hl 0 rfl) ?_
            refine lv_iload_n hx hb dX4_cutter_1 rfl (lv_at hl 1 rfl) ?_
            refine xv_q (i := 0) (As := [.int (xI z1)]) (rest := []) ⟨hx, hb, hml, hown, hts⟩ hl.1 (c_X4_cutterOf_out l D cA n ad en (by omega) hC z1 (by omega) (by omega)) k_X4_cutterOf u_ml_RX4_196 hK hN hP (by omega) hC.1 rfl rfl rfl rfl (Nat.le_of_ble_eq_true rfl) ⟨Nat.le_of_ble_eq_true rfl, Nat.le_of_ble_eq_true rfl⟩ ⟨Nat.le_of_ble_eq_true rfl, Nat.le_of_ble_eq_true rfl⟩ dX4_cutter_2 ?_
            refine lv_astoreN (lv' := [(5, .null), (0, .ref (ad 0)), (1, .int (xI z1)), (2, .int (xI (t2 : Int))), (3, .int (xI (t3 : Int))), (4, .int (xb z4))]) hx hb dX4_cutter_5 hl (by decide) rfl (fun ls hl => ?_)
            refine lv_aload_n hx hb dX4_cutter_7 rfl (lv_at hl 1 rfl) ?_
            refine lv_iload_n hx hb dX4_cutter_8 rfl (lv_at hl 3 rfl) ?_
            refine xv_q (i := 0) (As := [.int (xI (t2 : Int))]) (rest := []) ⟨hx, hb, hml, hown, hts⟩ hl.1 (c_X4_textOf_in l D cA n ad en (by omega) hC t2 (by omega)) k_X4_textOf u_ml_RX4_97 hK hN hP (by omega) hC.1 rfl rfl rfl rfl (Nat.le_of_ble_eq_true rfl) ⟨Nat.le_of_ble_eq_true rfl, Nat.le_of_ble_eq_true rfl⟩ ⟨Nat.le_of_ble_eq_true rfl, Nat.le_of_ble_eq_true rfl⟩ dX4_cutter_9 ?_
            refine lv_astore (lv' := [(6, .ref (ad (21 + 3 * t2))), (5, .null), (0, .ref (ad 0)), (1, .int (xI z1)), (2, .int (xI (t2 : Int))), (3, .int (xI (t3 : Int))), (4, .int (xb z4))]) hx hb dX4_cutter_12 hl (by decide) rfl (fun ls hl => ?_)
            refine lv_aload_n hx hb dX4_cutter_14 rfl (lv_at hl 2 rfl) ?_
            refine lv_iload_n hx hb dX4_cutter_15 rfl (lv_at hl 5 rfl) ?_
            refine xv_q (i := 0) (As := [.int (xI (t3 : Int))]) (rest := []) ⟨hx, hb, hml, hown, hts⟩ hl.1 (c_X4_textOf_in l D cA n ad en (by omega) hC t3 (by omega)) k_X4_textOf u_ml_RX4_97 hK hN hP (by omega) hC.1 rfl rfl rfl rfl (Nat.le_of_ble_eq_true rfl) ⟨Nat.le_of_ble_eq_true rfl, Nat.le_of_ble_eq_true rfl⟩ ⟨Nat.le_of_ble_eq_true rfl, Nat.le_of_ble_eq_true rfl⟩ dX4_cutter_16 ?_
            refine lv_astore (lv' := [(7, .ref (ad (21 + 3 * t3))), (6, .ref (ad (21 + 3 * t2))), (5, .null), (0, .ref (ad 0)), (1, .int (xI z1)), (2, .int (xI (t2 : Int))), (3, .int (xI (t3 : Int))), (4, .int (xb z4))]) hx hb dX4_cutter_19 hl (by decide) rfl (fun ls hl => ?_)
            refine lv_aloadN hx hb dX4_cutter_21 (lv_at hl 2 rfl) ?_
            refine lv_ifnullN (tgt := 36) hx hb dX4_cutter_23 (by decide) ?_
            refine x_sipush hx hb dX4_cutter_36 (by decide +kernel) ?_
            exact xe_i hx hb hrt hlocks hP hS ((by unfold am_cutter; simp only [Int.toNat_natCast]; simp only [sp_get_s hS_t2, sp_get_s hS_t3]; rw [sp_if_t (by omega)]; exact ⟨rfl, hC, xO.rf⟩)) dX4_cutter_39
        · have hT_t2 : XT cA ad en (21 + 3 * t2) (some r_t2) := by have q : XT cA ad en (21 + 3 * t2) (S.2.1 t2) := hC.rt h_t2; rw [hS_t2] at q; exact q
          have hr_t2 := hT_t2.2
          have hm_t2 := hr_t2.2.2.1
          refine lv_aload_n hx hb dX4_cutter_0 rfl (lv_at hl 0 rfl) ?_
          refine lv_iload_n hx hb dX4_cutter_1 rfl (lv_at hl 1 rfl) ?_
          refine xv_q (i := 0) (As := [.int (xI z1)]) (rest := []) ⟨hx, hb, hml, hown, hts⟩ hl.1 (c_X4_cutterOf_out l D cA n ad en (by omega) hC z1 (by omega) (by omega)) k_X4_cutterOf u_ml_RX4_196 hK hN hP (by omega) hC.1 rfl rfl rfl rfl (Nat.le_of_ble_eq_true rfl) ⟨Nat.le_of_ble_eq_true rfl, Nat.le_of_ble_eq_true rfl⟩ ⟨Nat.le_of_ble_eq_true rfl, Nat.le_of_ble_eq_true rfl⟩ dX4_cutter_2 ?_
          refine lv_astoreN (lv' := [(5, .null), (0, .ref (ad 0)), (1, .int (xI z1)), (2, .int (xI (t2 : Int))), (3, .int (xI z3)), (4, .int (xb z4))]) hx hb dX4_cutter_5 hl (by decide) rfl (fun ls hl => ?_)
          refine lv_aload_n hx hb dX4_cutter_7 rfl (lv_at hl 1 rfl) ?_
          refine lv_iload_n hx hb dX4_cutter_8 rfl (lv_at hl 3 rfl) ?_
          refine xv_q (i := 0) (As := [.int (xI (t2 : Int))]) (rest := []) ⟨hx, hb, hml, hown, hts⟩ hl.1 (c_X4_textOf_in l D cA n ad en (by omega) hC t2 (by omega)) k_X4_textOf u_ml_RX4_97 hK hN hP (by omega) hC.1 rfl rfl rfl rfl (Nat.le_of_ble_eq_true rfl) ⟨Nat.le_of_ble_eq_true rfl, Nat.le_of_ble_eq_true rfl⟩ ⟨Nat.le_of_ble_eq_true rfl, Nat.le_of_ble_eq_true rfl⟩ dX4_cutter_9 ?_
          refine lv_astore (lv' := [(6, .ref (ad (21 + 3 * t2))), (5, .null), (0, .ref (ad 0)), (1, .int (xI z1)), (2, .int (xI (t2 : Int))), (3, .int (xI z3)), (4, .int (xb z4))]) hx hb dX4_cutter_12 hl (by decide) rfl (fun ls hl => ?_)
          refine lv_aload_n hx hb dX4_cutter_14 rfl (lv_at hl 2 rfl) ?_
          refine lv_iload_n hx hb dX4_cutter_15 rfl (lv_at hl 5 rfl) ?_
          refine xv_q (i := 0) (As := [.int (xI z3)]) (rest := []) ⟨hx, hb, hml, hown, hts⟩ hl.1 (c_X4_textOf_out l D cA n ad en (by omega) hC z3 (by omega) (by omega)) k_X4_textOf u_ml_RX4_97 hK hN hP (by omega) hC.1 rfl rfl rfl rfl (Nat.le_of_ble_eq_true rfl) ⟨Nat.le_of_ble_eq_true rfl, Nat.le_of_ble_eq_true rfl⟩ ⟨Nat.le_of_ble_eq_true rfl, Nat.le_of_ble_eq_true rfl⟩ dX4_cutter_16 ?_
          refine lv_astoreN (lv' := [(7, .null), (6, .ref (ad (21 + 3 * t2))), (5, .null), (0, .ref (ad 0)), (1, .int (xI z1)), (2, .int (xI (t2 : Int))), (3, .int (xI z3)), (4, .int (xb z4))]) hx hb dX4_cutter_19 hl (by decide) rfl (fun ls hl => ?_)
          refine lv_aloadN hx hb dX4_cutter_21 (lv_at hl 2 rfl) ?_
          refine lv_ifnullN (tgt := 36) hx hb dX4_cutter_23 (by decide) ?_
          refine x_sipush hx hb dX4_cutter_36 (by decide +kernel) ?_
          exact xe_i hx hb hrt hlocks hP hS ((by unfold am_cutter; simp only [Int.toNat_natCast]; simp only [sp_get_s hS_t2]; rw [sp_if_t (by omega)]; exact ⟨rfl, hC, xO.rf⟩)) dX4_cutter_39
    · rcases Classical.em (0 ≤ z3 ∧ z3 < 8) with hx_z3 | hx_z3
      · obtain ⟨t3, rfl⟩ : ∃ q : Nat, z3 = (q : Int) := ⟨z3.toNat, by omega⟩
        have h_t3 : t3 < 8 := by omega
        rcases hS_t3 : S.2.1 t3 with _ | r_t3
        · have hT_t3 : XT cA ad en (21 + 3 * t3) none := by have q : XT cA ad en (21 + 3 * t3) (S.2.1 t3) := hC.rt h_t3; rw [hS_t3] at q; exact q
          refine lv_aload_n hx hb dX4_cutter_0 rfl (lv_at hl 0 rfl) ?_
          refine lv_iload_n hx hb dX4_cutter_1 rfl (lv_at hl 1 rfl) ?_
          refine xv_q (i := 0) (As := [.int (xI z1)]) (rest := []) ⟨hx, hb, hml, hown, hts⟩ hl.1 (c_X4_cutterOf_out l D cA n ad en (by omega) hC z1 (by omega) (by omega)) k_X4_cutterOf u_ml_RX4_196 hK hN hP (by omega) hC.1 rfl rfl rfl rfl (Nat.le_of_ble_eq_true rfl) ⟨Nat.le_of_ble_eq_true rfl, Nat.le_of_ble_eq_true rfl⟩ ⟨Nat.le_of_ble_eq_true rfl, Nat.le_of_ble_eq_true rfl⟩ dX4_cutter_2 ?_
          refine lv_astoreN (lv' := [(5, .null), (0, .ref (ad 0)), (1, .int (xI z1)), (2, .int (xI z2)), (3, .int (xI (t3 : Int))), (4, .int (xb z4))]) hx hb dX4_cutter_5 hl (by decide) rfl (fun ls hl => ?_)
          refine lv_aload_n hx hb dX4_cutter_7 rfl (lv_at hl 1 rfl) ?_
          refine lv_iload_n hx hb dX4_cutter_8 rfl (lv_at hl 3 rfl) ?_
          refine xv_q (i := 0) (As := [.int (xI z2)]) (rest := []) ⟨hx, hb, hml, hown, hts⟩ hl.1 (c_X4_textOf_out l D cA n ad en (by omega) hC z2 (by omega) (by omega)) k_X4_textOf u_ml_RX4_97 hK hN hP (by omega) hC.1 rfl rfl rfl rfl (Nat.le_of_ble_eq_true rfl) ⟨Nat.le_of_ble_eq_true rfl, Nat.le_of_ble_eq_true rfl⟩ ⟨Nat.le_of_ble_eq_true rfl, Nat.le_of_ble_eq_true rfl⟩ dX4_cutter_9 ?_
          refine lv_astoreN (lv' := [(6, .null), (5, .null), (0, .ref (ad 0)), (1, .int (xI z1)), (2, .int (xI z2)), (3, .int (xI (t3 : Int))), (4, .int (xb z4))]) hx hb dX4_cutter_12 hl (by decide) rfl (fun ls hl => ?_)
          refine lv_aload_n hx hb dX4_cutter_14 rfl (lv_at hl 2 rfl) ?_
          refine lv_iload_n hx hb dX4_cutter_15 rfl (lv_at hl 5 rfl) ?_
          refine xv_q (i := 0) (As := [.int (xI (t3 : Int))]) (rest := []) ⟨hx, hb, hml, hown, hts⟩ hl.1 (c_X4_textOf_in l D cA n ad en (by omega) hC t3 (by omega)) k_X4_textOf u_ml_RX4_97 hK hN hP (by omega) hC.1 rfl rfl rfl rfl (Nat.le_of_ble_eq_true rfl) ⟨Nat.le_of_ble_eq_true rfl, Nat.le_of_ble_eq_true rfl⟩ ⟨Nat.le_of_ble_eq_true rfl, Nat.le_of_ble_eq_true rfl⟩ dX4_cutter_16 ?_
          refine lv_astore (lv' := [(7, .ref (ad (21 + 3 * t3))), (6, .null), (5, .null), (0, .ref (ad 0)), (1, .int (xI z1)), (2, .int (xI z2)), (3, .int (xI (t3 : Int))), (4, .int (xb z4))]) hx hb dX4_cutter_19 hl (by decide) rfl (fun ls hl => ?_)
          refine lv_aloadN hx hb dX4_cutter_21 (lv_at hl 2 rfl) ?_
          refine lv_ifnullN (tgt := 36) hx hb dX4_cutter_23 (by decide) ?_
          refine x_sipush hx hb dX4_cutter_36 (by decide +kernel) ?_
          exact xe_i hx hb hrt hlocks hP hS ((by unfold am_cutter; simp only [Int.toNat_natCast]; rw [sp_if_t (by omega)]; exact ⟨rfl, hC, xO.rf⟩)) dX4_cutter_39
        · have hT_t3 : XT cA ad en (21 + 3 * t3) (some r_t3) := by have q : XT cA ad en (21 + 3 * t3) (S.2.1 t3) := hC.rt h_t3; rw [hS_t3] at q; exact q
          have hr_t3 := hT_t3.2
          have hm_t3 := hr_t3.2.2.1
          refine lv_aload_n hx hb dX4_cutter_0 rfl (lv_at hl 0 rfl) ?_
          refine lv_iload_n hx hb dX4_cutter_1 rfl (lv_at hl 1 rfl) ?_
          refine xv_q (i := 0) (As := [.int (xI z1)]) (rest := []) ⟨hx, hb, hml, hown, hts⟩ hl.1 (c_X4_cutterOf_out l D cA n ad en (by omega) hC z1 (by omega) (by omega)) k_X4_cutterOf u_ml_RX4_196 hK hN hP (by omega) hC.1 rfl rfl rfl rfl (Nat.le_of_ble_eq_true rfl) ⟨Nat.le_of_ble_eq_true rfl, Nat.le_of_ble_eq_true rfl⟩ ⟨Nat.le_of_ble_eq_true rfl, Nat.le_of_ble_eq_true rfl⟩ dX4_cutter_2 ?_
          refine lv_astoreN (lv' := [(5, .null), (0, .ref (ad 0)), (1, .int (xI z1)), (2, .int (xI z2)), (3, .int (xI (t3 : Int))), (4, .int (xb z4))]) hx hb dX4_cutter_5 hl (by decide) rfl (fun ls hl => ?_)
          refine lv_aload_n hx hb dX4_cutter_7 rfl (lv_at hl 1 rfl) ?_
          refine lv_iload_n hx hb dX4_cutter_8 rfl (lv_at hl 3 rfl) ?_
          refine xv_q (i := 0) (As := [.int (xI z2)]) (rest := []) ⟨hx, hb, hml, hown, hts⟩ hl.1 (c_X4_textOf_out l D cA n ad en (by omega) hC z2 (by omega) (by omega)) k_X4_textOf u_ml_RX4_97 hK hN hP (by omega) hC.1 rfl rfl rfl rfl (Nat.le_of_ble_eq_true rfl) ⟨Nat.le_of_ble_eq_true rfl, Nat.le_of_ble_eq_true rfl⟩ ⟨Nat.le_of_ble_eq_true rfl, Nat.le_of_ble_eq_true rfl⟩ dX4_cutter_9 ?_
          refine lv_astoreN (lv' := [(6, .null), (5, .null), (0, .ref (ad 0)), (1, .int (xI z1)), (2, .int (xI z2)), (3, .int (xI (t3 : Int))), (4, .int (xb z4))]) hx hb dX4_cutter_12 hl (by decide) rfl (fun ls hl => ?_)
          refine lv_aload_n hx hb dX4_cutter_14 rfl (lv_at hl 2 rfl) ?_
          refine lv_iload_n hx hb dX4_cutter_15 rfl (lv_at hl 5 rfl) ?_
          refine xv_q (i := 0) (As := [.int (xI (t3 : Int))]) (rest := []) ⟨hx, hb, hml, hown, hts⟩ hl.1 (c_X4_textOf_in l D cA n ad en (by omega) hC t3 (by omega)) k_X4_textOf u_ml_RX4_97 hK hN hP (by omega) hC.1 rfl rfl rfl rfl (Nat.le_of_ble_eq_true rfl) ⟨Nat.le_of_ble_eq_true rfl, Nat.le_of_ble_eq_true rfl⟩ ⟨Nat.le_of_ble_eq_true rfl, Nat.le_of_ble_eq_true rfl⟩ dX4_cutter_16 ?_
          refine lv_astore (lv' := [(7, .ref (ad (21 + 3 * t3))), (6, .null), (5, .null), (0, .ref (ad 0)), (1, .int (xI z1)), (2, .int (xI z2)), (3, .int (xI (t3 : Int))), (4, .int (xb z4))]) hx hb dX4_cutter_19 hl (by decide) rfl (fun ls hl => ?_)
          refine lv_aloadN hx hb dX4_cutter_21 (lv_at hl 2 rfl) ?_
          refine lv_ifnullN (tgt := 36) hx hb dX4_cutter_23 (by decide) ?_
          refine x_sipush hx hb dX4_cutter_36 (by decide +kernel) ?_
          exact xe_i hx hb hrt hlocks hP hS ((by unfold am_cutter; simp only [Int.toNat_natCast]; simp only [sp_get_s hS_t3]; rw [sp_if_t (by omega)]; exact ⟨rfl, hC, xO.rf⟩)) dX4_cutter_39
      · refine lv_aload_n hx hb dX4_cutter_0 rfl (lv_at hl 0 rfl) ?_
        refine lv_iload_n hx hb dX4_cutter_1 rfl (lv_at hl 1 rfl) ?_
        refine xv_q (i := 0) (As := [.int (xI z1)]) (rest := []) ⟨hx, hb, hml, hown, hts⟩ hl.1 (c_X4_cutterOf_out l D cA n ad en (by omega) hC z1 (by omega) (by omega)) k_X4_cutterOf u_ml_RX4_196 hK hN hP (by omega) hC.1 rfl rfl rfl rfl (Nat.le_of_ble_eq_true rfl) ⟨Nat.le_of_ble_eq_true rfl, Nat.le_of_ble_eq_true rfl⟩ ⟨Nat.le_of_ble_eq_true rfl, Nat.le_of_ble_eq_true rfl⟩ dX4_cutter_2 ?_
        refine lv_astoreN (lv' := [(5, .null), (0, .ref (ad 0)), (1, .int (xI z1)), (2, .int (xI z2)), (3, .int (xI z3)), (4, .int (xb z4))]) hx hb dX4_cutter_5 hl (by decide) rfl (fun ls hl => ?_)
        refine lv_aload_n hx hb dX4_cutter_7 rfl (lv_at hl 1 rfl) ?_
        refine lv_iload_n hx hb dX4_cutter_8 rfl (lv_at hl 3 rfl) ?_
        refine xv_q (i := 0) (As := [.int (xI z2)]) (rest := []) ⟨hx, hb, hml, hown, hts⟩ hl.1 (c_X4_textOf_out l D cA n ad en (by omega) hC z2 (by omega) (by omega)) k_X4_textOf u_ml_RX4_97 hK hN hP (by omega) hC.1 rfl rfl rfl rfl (Nat.le_of_ble_eq_true rfl) ⟨Nat.le_of_ble_eq_true rfl, Nat.le_of_ble_eq_true rfl⟩ ⟨Nat.le_of_ble_eq_true rfl, Nat.le_of_ble_eq_true rfl⟩ dX4_cutter_9 ?_
        refine lv_astoreN (lv' := [(6, .null), (5, .null), (0, .ref (ad 0)), (1, .int (xI z1)), (2, .int (xI z2)), (3, .int (xI z3)), (4, .int (xb z4))]) hx hb dX4_cutter_12 hl (by decide) rfl (fun ls hl => ?_)
        refine lv_aload_n hx hb dX4_cutter_14 rfl (lv_at hl 2 rfl) ?_
        refine lv_iload_n hx hb dX4_cutter_15 rfl (lv_at hl 5 rfl) ?_
        refine xv_q (i := 0) (As := [.int (xI z3)]) (rest := []) ⟨hx, hb, hml, hown, hts⟩ hl.1 (c_X4_textOf_out l D cA n ad en (by omega) hC z3 (by omega) (by omega)) k_X4_textOf u_ml_RX4_97 hK hN hP (by omega) hC.1 rfl rfl rfl rfl (Nat.le_of_ble_eq_true rfl) ⟨Nat.le_of_ble_eq_true rfl, Nat.le_of_ble_eq_true rfl⟩ ⟨Nat.le_of_ble_eq_true rfl, Nat.le_of_ble_eq_true rfl⟩ dX4_cutter_16 ?_
        refine lv_astoreN (lv' := [(7, .null), (6, .null), (5, .null), (0, .ref (ad 0)), (1, .int (xI z1)), (2, .int (xI z2)), (3, .int (xI z3)), (4, .int (xb z4))]) hx hb dX4_cutter_19 hl (by decide) rfl (fun ls hl => ?_)
        refine lv_aloadN hx hb dX4_cutter_21 (lv_at hl 2 rfl) ?_
        refine lv_ifnullN (tgt := 36) hx hb dX4_cutter_23 (by decide) ?_
        refine x_sipush hx hb dX4_cutter_36 (by decide +kernel) ?_
        exact xe_i hx hb hrt hlocks hP hS ((by unfold am_cutter; rw [sp_if_t (by omega)]; exact ⟨rfl, hC, xO.rf⟩)) dX4_cutter_39

set_option maxRecDepth 20000 in
theorem c_X4_more (l : Launch) (D : va_G) (cA : Nat → ClassId) (n : Nat) (ad : Nat → Nat) (en : Nat → va_E) (hn : 53 ≤ n) {S : xSt} (hC : CW cA ad en S) (z1 : Int) (hz1 : -2147483648 ≤ z1 ∧ z1 ≤ 2147483647) : Met l yX4_more (Cond.code yX4_more cX4_more 3 (some .int) :: xU) (xrm 5 106) (va_Pc [.ref (ad 0), .int (xI z1)] (xB D cA n ad en)) (vp_Si (fun z => z = xI (am_more S z1))) 0 0 (fun _ => False) := by
  refine xmet (by decide) (Nat.le_of_ble_eq_true rfl) (fun p e s mm args below meth c ls hx hb hrt hml hown hts hlocks hname hB hl => ?_)
  obtain ⟨hP, hK, hN⟩ := hB
  have hl : lv_has ls 3 [(0, .ref (ad 0)), (1, .int (xI z1))] := hl
  rcases Classical.em (0 ≤ z1 ∧ z1 < 2) with hx_z1 | hx_z1
  · obtain ⟨q1, rfl⟩ : ∃ q : Nat, z1 = (q : Int) := ⟨z1.toNat, by omega⟩
    have h_q1 : q1 < 2 := by omega
    rcases hS_q1 : S.2.2.2 q1 with _ | r_q1
    · have hC_q1 : XC cA ad en (45 + 4 * q1) none := by have q : XC cA ad en (45 + 4 * q1) (S.2.2.2 q1) := hC.rc h_q1; rw [hS_q1] at q; exact q
      obtain ⟨kG_q1, kp_q1, hk_q1, -⟩ := hC_q1
      refine lv_aload_n hx hb dX4_more_0 rfl (lv_at hl 0 rfl) ?_
      refine lv_iload_n hx hb dX4_more_1 rfl (lv_at hl 1 rfl) ?_
      refine xv_q (i := 0) (As := [.int (xI (q1 : Int))]) (rest := []) ⟨hx, hb, hml, hown, hts⟩ hl.1 (c_X4_cutterOf_in l D cA n ad en (by omega) hC q1 (by omega)) k_X4_cutterOf u_ml_RX4_196 hK hN hP (by omega) hC.1 rfl rfl rfl rfl (Nat.le_of_ble_eq_true rfl) ⟨Nat.le_of_ble_eq_true rfl, Nat.le_of_ble_eq_true rfl⟩ ⟨Nat.le_of_ble_eq_true rfl, Nat.le_of_ble_eq_true rfl⟩ dX4_more_2 ?_
      refine lv_astore_n (lv' := [(2, .ref (ad (45 + 4 * q1))), (0, .ref (ad 0)), (1, .int (xI (q1 : Int)))]) hx hb dX4_more_5 rfl hl (by decide) rfl (fun ls hl => ?_)
      refine lv_aload_n hx hb dX4_more_6 rfl (lv_at hl 0 rfl) ?_
      refine lv_ifnonnull (tgt := 14) hx hb dX4_more_7 (by decide) ?_
      refine lv_aload_n hx hb dX4_more_14 rfl (lv_at hl 0 rfl) ?_
      refine x_getn (T := TX0) (N := 5) hx hb hts uX0 hown hN hK hP (i := 45 + 4 * q1) (by omega) hk_q1 rfl 3 (by decide) (by simp only [xNest, List.mem_cons]; exact Or.inr (Or.inr (Or.inr (Or.inr (Or.inr (Or.inr (Or.inr (Or.inl rfl)))))))) rfl dX4_more_15 ?_
      refine x_if_eq (tgt := 25) hx hb dX4_more_18 (by decide) (by omega) (fun c_18 => absurd c_18 (by omega)) (fun c_18 => ?_)
      refine x_sipush hx hb dX4_more_21 (by decide +kernel) ?_
      exact xr_i hx hb hrt hlocks ((by unfold am_more; simp only [Int.toNat_natCast]; rw [sp_if_f (by omega), sp_if_t (by simp [hS_q1])])) dX4_more_24
    · have hC_q1 : XC cA ad en (45 + 4 * q1) (some r_q1) := by have q : XC cA ad en (45 + 4 * q1) (S.2.2.2 q1) := hC.rc h_q1; rw [hS_q1] at q; exact q
      have hk_q1 := hC_q1.k.1
      have hp_q1 := hC_q1.k.2
      have hm_q1 := hk_q1.2.1.2.2.1
      refine lv_aload_n hx hb dX4_more_0 rfl (lv_at hl 0 rfl) ?_
      refine lv_iload_n hx hb dX4_more_1 rfl (lv_at hl 1 rfl) ?_
      refine xv_q (i := 0) (As := [.int (xI (q1 : Int))]) (rest := []) ⟨hx, hb, hml, hown, hts⟩ hl.1 (c_X4_cutterOf_in l D cA n ad en (by omega) hC q1 (by omega)) k_X4_cutterOf u_ml_RX4_196 hK hN hP (by omega) hC.1 rfl rfl rfl rfl (Nat.le_of_ble_eq_true rfl) ⟨Nat.le_of_ble_eq_true rfl, Nat.le_of_ble_eq_true rfl⟩ ⟨Nat.le_of_ble_eq_true rfl, Nat.le_of_ble_eq_true rfl⟩ dX4_more_2 ?_
      refine lv_astore_n (lv' := [(2, .ref (ad (45 + 4 * q1))), (0, .ref (ad 0)), (1, .int (xI (q1 : Int)))]) hx hb dX4_more_5 rfl hl (by decide) rfl (fun ls hl => ?_)
      refine lv_aload_n hx hb dX4_more_6 rfl (lv_at hl 0 rfl) ?_
      refine lv_ifnonnull (tgt := 14) hx hb dX4_more_7 (by decide) ?_
      refine lv_aload_n hx hb dX4_more_14 rfl (lv_at hl 0 rfl) ?_
      refine x_getn (T := TX0) (N := 5) hx hb hts uX0 hown hN hK hP (i := 45 + 4 * q1) (by omega) hk_q1.1 rfl 3 (by decide) (by simp only [xNest, List.mem_cons]; exact Or.inr (Or.inr (Or.inr (Or.inr (Or.inr (Or.inr (Or.inr (Or.inl rfl)))))))) rfl dX4_more_15 ?_
      refine x_if_eq (tgt := 25) hx hb dX4_more_18 (by decide) (by omega) (fun c_18 => ?_) (fun c_18 => absurd c_18 (by omega))
      refine lv_aload_n hx hb dX4_more_25 rfl (lv_at hl 0 rfl) ?_
      refine xv_i (i := 45 + 4 * q1) (As := []) (rest := []) ⟨hx, hb, hml, hown, hts⟩ hl.1 (c_X0_hasToken l D cA n ad en (by omega) hk_q1 (by omega)) k_X0_hasToken u_ml_RX4_208 hK hN hP (by omega) hk_q1.1 rfl rfl rfl rfl (Nat.le_of_ble_eq_true rfl) ⟨Nat.le_of_ble_eq_true rfl, Nat.le_of_ble_eq_true rfl⟩ ⟨Nat.le_of_ble_eq_true rfl, Nat.le_of_ble_eq_true rfl⟩ dX4_more_26 ?_
      refine x_ifb_eq (tgt := 36) hx hb dX4_more_29 (by decide)  (fun c_29 => ?_) (fun c_29 => ?_)
      · refine x_iconst hx hb dX4_more_36 ?_
        exact xr_i hx hb hrt hlocks ((by unfold am_more; simp only [Int.toNat_natCast]; simp only [sp_getc_s hS_q1]; rw [sp_if_f (by omega), sp_if_f (by simp [hS_q1])]; unfold sp_more; rw [xd_f c_29])) dX4_more_37
      · refine x_iconst hx hb dX4_more_32 ?_
        refine lv_goto (tgt := 37) hx hb dX4_more_33 (by decide) ?_
        exact xr_i hx hb hrt hlocks ((by unfold am_more; simp only [Int.toNat_natCast]; simp only [sp_getc_s hS_q1]; rw [sp_if_f (by omega), sp_if_f (by simp [hS_q1])]; unfold sp_more; rw [xd_t c_29])) dX4_more_37
  · refine lv_aload_n hx hb dX4_more_0 rfl (lv_at hl 0 rfl) ?_
    refine lv_iload_n hx hb dX4_more_1 rfl (lv_at hl 1 rfl) ?_
    refine xv_q (i := 0) (As := [.int (xI z1)]) (rest := []) ⟨hx, hb, hml, hown, hts⟩ hl.1 (c_X4_cutterOf_out l D cA n ad en (by omega) hC z1 (by omega) (by omega)) k_X4_cutterOf u_ml_RX4_196 hK hN hP (by omega) hC.1 rfl rfl rfl rfl (Nat.le_of_ble_eq_true rfl) ⟨Nat.le_of_ble_eq_true rfl, Nat.le_of_ble_eq_true rfl⟩ ⟨Nat.le_of_ble_eq_true rfl, Nat.le_of_ble_eq_true rfl⟩ dX4_more_2 ?_
    refine lv_astore_nN (lv' := [(2, .null), (0, .ref (ad 0)), (1, .int (xI z1))]) hx hb dX4_more_5 rfl hl (by decide) rfl (fun ls hl => ?_)
    refine lv_aload_nN hx hb dX4_more_6 rfl (lv_at hl 0 rfl) ?_
    refine lv_ifnonnullN hx hb dX4_more_7 ?_
    refine x_sipush hx hb dX4_more_10 (by decide +kernel) ?_
    exact xr_i hx hb hrt hlocks ((by unfold am_more; rw [sp_if_t (by omega)])) dX4_more_13

set_option maxRecDepth 20000 in
theorem c_X4_left (l : Launch) (D : va_G) (cA : Nat → ClassId) (n : Nat) (ad : Nat → Nat) (en : Nat → va_E) (hn : 53 ≤ n) {S : xSt} (hC : CW cA ad en S) (z1 : Int) (hz1 : -2147483648 ≤ z1 ∧ z1 ≤ 2147483647) : Met l yX4_left (Cond.code yX4_left cX4_left 3 (some .int) :: xU) (xrm 5 108) (va_Pc [.ref (ad 0), .int (xI z1)] (xB D cA n ad en)) (vp_Si (fun z => z = xI (am_left S z1))) 0 0 (fun _ => False) := by
  refine xmet (by decide) (Nat.le_of_ble_eq_true rfl) (fun p e s mm args below meth c ls hx hb hrt hml hown hts hlocks hname hB hl => ?_)
  obtain ⟨hP, hK, hN⟩ := hB
  have hl : lv_has ls 3 [(0, .ref (ad 0)), (1, .int (xI z1))] := hl
  rcases Classical.em (0 ≤ z1 ∧ z1 < 2) with hx_z1 | hx_z1
  · obtain ⟨q1, rfl⟩ : ∃ q : Nat, z1 = (q : Int) := ⟨z1.toNat, by omega⟩
    have h_q1 : q1 < 2 := by omega
    rcases hS_q1 : S.2.2.2 q1 with _ | r_q1
    · have hC_q1 : XC cA ad en (45 + 4 * q1) none := by have q : XC cA ad en (45 + 4 * q1) (S.2.2.2 q1) := hC.rc h_q1; rw [hS_q1] at q; exact q
      obtain ⟨kG_q1, kp_q1, hk_q1, -⟩ := hC_q1
      refine lv_aload_n hx hb dX4_left_0 rfl (lv_at hl 0 rfl) ?_
      refine lv_iload_n hx hb dX4_left_1 rfl (lv_at hl 1 rfl) ?_
      refine xv_q (i := 0) (As := [.int (xI (q1 : Int))]) (rest := []) ⟨hx, hb, hml, hown, hts⟩ hl.1 (c_X4_cutterOf_in l D cA n ad en (by omega) hC q1 (by omega)) k_X4_cutterOf u_ml_RX4_196 hK hN hP (by omega) hC.1 rfl rfl rfl rfl (Nat.le_of_ble_eq_true rfl) ⟨Nat.le_of_ble_eq_true rfl, Nat.le_of_ble_eq_true rfl⟩ ⟨Nat.le_of_ble_eq_true rfl, Nat.le_of_ble_eq_true rfl⟩ dX4_left_2 ?_
      refine lv_astore_n (lv' := [(2, .ref (ad (45 + 4 * q1))), (0, .ref (ad 0)), (1, .int (xI (q1 : Int)))]) hx hb dX4_left_5 rfl hl (by decide) rfl (fun ls hl => ?_)
      refine lv_aload_n hx hb dX4_left_6 rfl (lv_at hl 0 rfl) ?_
      refine lv_ifnonnull (tgt := 14) hx hb dX4_left_7 (by decide) ?_
      refine lv_aload_n hx hb dX4_left_14 rfl (lv_at hl 0 rfl) ?_
      refine x_getn (T := TX0) (N := 5) hx hb hts uX0 hown hN hK hP (i := 45 + 4 * q1) (by omega) hk_q1 rfl 3 (by decide) (by simp only [xNest, List.mem_cons]; exact Or.inr (Or.inr (Or.inr (Or.inr (Or.inr (Or.inr (Or.inr (Or.inl rfl)))))))) rfl dX4_left_15 ?_
      refine x_if_eq (tgt := 27) hx hb dX4_left_18 (by decide) (by omega) (fun c_18 => absurd c_18 (by omega)) (fun c_18 => ?_)
      refine x_sipush hx hb dX4_left_21 (by decide +kernel) ?_
      refine lv_goto (tgt := 31) hx hb dX4_left_24 (by decide) ?_
      exact xr_i hx hb hrt hlocks ((by unfold am_left; simp only [Int.toNat_natCast]; rw [sp_if_f (by omega), sp_if_t (by simp [hS_q1])])) dX4_left_31
    · have hC_q1 : XC cA ad en (45 + 4 * q1) (some r_q1) := by have q : XC cA ad en (45 + 4 * q1) (S.2.2.2 q1) := hC.rc h_q1; rw [hS_q1] at q; exact q
      have hk_q1 := hC_q1.k.1
      have hp_q1 := hC_q1.k.2
      have hm_q1 := hk_q1.2.1.2.2.1
      refine lv_aload_n hx hb dX4_left_0 rfl (lv_at hl 0 rfl) ?_
      refine lv_iload_n hx hb dX4_left_1 rfl (lv_at hl 1 rfl) ?_
      refine xv_q (i := 0) (As := [.int (xI (q1 : Int))]) (rest := []) ⟨hx, hb, hml, hown, hts⟩ hl.1 (c_X4_cutterOf_in l D cA n ad en (by omega) hC q1 (by omega)) k_X4_cutterOf u_ml_RX4_196 hK hN hP (by omega) hC.1 rfl rfl rfl rfl (Nat.le_of_ble_eq_true rfl) ⟨Nat.le_of_ble_eq_true rfl, Nat.le_of_ble_eq_true rfl⟩ ⟨Nat.le_of_ble_eq_true rfl, Nat.le_of_ble_eq_true rfl⟩ dX4_left_2 ?_
      refine lv_astore_n (lv' := [(2, .ref (ad (45 + 4 * q1))), (0, .ref (ad 0)), (1, .int (xI (q1 : Int)))]) hx hb dX4_left_5 rfl hl (by decide) rfl (fun ls hl => ?_)
      refine lv_aload_n hx hb dX4_left_6 rfl (lv_at hl 0 rfl) ?_
      refine lv_ifnonnull (tgt := 14) hx hb dX4_left_7 (by decide) ?_
      refine lv_aload_n hx hb dX4_left_14 rfl (lv_at hl 0 rfl) ?_
      refine x_getn (T := TX0) (N := 5) hx hb hts uX0 hown hN hK hP (i := 45 + 4 * q1) (by omega) hk_q1.1 rfl 3 (by decide) (by simp only [xNest, List.mem_cons]; exact Or.inr (Or.inr (Or.inr (Or.inr (Or.inr (Or.inr (Or.inr (Or.inl rfl)))))))) rfl dX4_left_15 ?_
      refine x_if_eq (tgt := 27) hx hb dX4_left_18 (by decide) (by omega) (fun c_18 => ?_) (fun c_18 => absurd c_18 (by omega))
      refine lv_aload_n hx hb dX4_left_27 rfl (lv_at hl 0 rfl) ?_
      have hlb := sp_left_b r_q1.2.2.1 r_q1.2.1 r_q1.1.2 (r_q1.1.1 : Int) (r_q1.2.2.2 : Int)
      refine xv_i (i := 45 + 4 * q1) (As := []) (rest := []) ⟨hx, hb, hml, hown, hts⟩ hl.1 (c_X0_tokensLeft l D cA n ad en (by omega) hk_q1 (by omega)) k_X0_tokensLeft u_ml_RX4_204 hK hN hP (by omega) hk_q1.1 rfl rfl rfl rfl (Nat.le_of_ble_eq_true rfl) ⟨Nat.le_of_ble_eq_true rfl, Nat.le_of_ble_eq_true rfl⟩ ⟨Nat.le_of_ble_eq_true rfl, Nat.le_of_ble_eq_true rfl⟩ dX4_left_28 ?_
      exact xr_i hx hb hrt hlocks ((by unfold am_left; simp only [Int.toNat_natCast]; simp only [sp_getc_s hS_q1]; rw [sp_if_f (by omega), sp_if_f (by simp [hS_q1])]; rfl)) dX4_left_31
  · refine lv_aload_n hx hb dX4_left_0 rfl (lv_at hl 0 rfl) ?_
    refine lv_iload_n hx hb dX4_left_1 rfl (lv_at hl 1 rfl) ?_
    refine xv_q (i := 0) (As := [.int (xI z1)]) (rest := []) ⟨hx, hb, hml, hown, hts⟩ hl.1 (c_X4_cutterOf_out l D cA n ad en (by omega) hC z1 (by omega) (by omega)) k_X4_cutterOf u_ml_RX4_196 hK hN hP (by omega) hC.1 rfl rfl rfl rfl (Nat.le_of_ble_eq_true rfl) ⟨Nat.le_of_ble_eq_true rfl, Nat.le_of_ble_eq_true rfl⟩ ⟨Nat.le_of_ble_eq_true rfl, Nat.le_of_ble_eq_true rfl⟩ dX4_left_2 ?_
    refine lv_astore_nN (lv' := [(2, .null), (0, .ref (ad 0)), (1, .int (xI z1))]) hx hb dX4_left_5 rfl hl (by decide) rfl (fun ls hl => ?_)
    refine lv_aload_nN hx hb dX4_left_6 rfl (lv_at hl 0 rfl) ?_
    refine lv_ifnonnullN hx hb dX4_left_7 ?_
    refine x_sipush hx hb dX4_left_10 (by decide +kernel) ?_
    exact xr_i hx hb hrt hlocks ((by unfold am_left; rw [sp_if_t (by omega)])) dX4_left_13

theorem sp_nxt_e {S : xSt} {c t : Nat} {q : xCut} (h : (q.1.1 : Int) ≤ sp_ct q) : sp_nxt S c t q = (-1006, (S.1, S.2.1, S.2.2.1, sp_up S.2.2.2 c none)) := if_pos h
theorem sp_nxt_g {S : xSt} {c t : Nat} {q : xCut} (h : sp_ct q < (q.1.1 : Int)) : sp_nxt S c t q = (sp_ce q - sp_ct q, (S.1, sp_up S.2.1 t (some ((sp_ce q - sp_ct q).toNat, fun k => q.1.2 ((sp_ct q).toNat + k))), S.2.2.1, sp_up S.2.2.2 c (some (q.1, q.2.1, q.2.2.1, (sp_ce q).toNat)))) := if_neg (by omega)

set_option maxRecDepth 20000 in
theorem c_X4_next (l : Launch) (D : va_G) (cA : Nat → ClassId) (n : Nat) (ad : Nat → Nat) (en : Nat → va_E) (sz : Nat) (hn : 53 ≤ n) {S : xSt} (hC : CW cA ad en S) (z1 : Int) (hz1 : -2147483648 ≤ z1 ∧ z1 ≤ 2147483647) (z2 : Int) (hz2 : -2147483648 ≤ z2 ∧ z2 ≤ 2147483647) : Met l yX4_next (Cond.code yX4_next cX4_next 5 (some .int) :: xU) (xrm 5 108) (va_Pc [.ref (ad 0), .int (xI z1), .int (xI z2)] (xM D cA n ad en sz)) (va_Qi (fun r u => r = xI (am_next S z1 z2).1 ∧ CW cA ad u (am_next S z1 z2).2 ∧ xO 0 53 en u) (xE D n ad) (xA n ad sz)) 0 0 (xA n ad sz) := by
  refine xmet (by decide) (Nat.le_of_ble_eq_true rfl) (fun p e s mm args below meth c ls hx hb hrt hml hown hts hlocks hname hB hl => ?_)
  obtain ⟨⟨hP, hK, hN⟩, hsz, hDt⟩ := hB
  have hD : xD (xA n ad sz) n ad := xD_self hDt sz
  have hA : ∀ q : Nat, s.heap.size ≤ q → xA n ad sz q := fun q h => Or.inr (by rw [← hsz]; exact h)
  have hS : va_S (xA n ad sz) s.heap s.heap [] := va_S.rf
  have hown : s.vm.findClass RX4 = some mm.cls := hown
  have hl : lv_has ls 5 [(0, .ref (ad 0)), (1, .int (xI z1)), (2, .int (xI z2))] := hl
  rcases Classical.em (0 ≤ z1 ∧ z1 < 2) with hx_z1 | hx_z1
  · obtain ⟨q1, rfl⟩ : ∃ q : Nat, z1 = (q : Int) := ⟨z1.toNat, by omega⟩
    have h_q1 : q1 < 2 := by omega
    rcases hS_q1 : S.2.2.2 q1 with _ | r_q1
    · rcases Classical.em (0 ≤ z2 ∧ z2 < 8) with hx_z2 | hx_z2
      · obtain ⟨t2, rfl⟩ : ∃ q : Nat, z2 = (q : Int) := ⟨z2.toNat, by omega⟩
        have h_t2 : t2 < 8 := by omega
        have hC_q1 : XC cA ad en (45 + 4 * q1) none := by have q : XC cA ad en (45 + 4 * q1) (S.2.2.2 q1) := hC.rc h_q1; rw [hS_q1] at q; exact q
        obtain ⟨kG_q1, kp_q1, hk_q1, -⟩ := hC_q1
        have hT_t2 : XT cA ad en (21 + 3 * t2) (S.2.1 t2) := hC.rt h_t2
        obtain ⟨zm_t2, tm_t2, tf_t2, hO_t2, hr_t2⟩ := hT_t2.any
        refine lv_aload_n hx hb dX4_next_0 rfl (lv_at hl 0 rfl) ?_
        refine lv_iload_n hx hb dX4_next_1 rfl (lv_at hl 1 rfl) ?_
        refine xv_q (i := 0) (As := [.int (xI (q1 : Int))]) (rest := []) ⟨hx, hb, hml, hown, hts⟩ hl.1 (c_X4_cutterOf_in l D cA n ad en (by omega) hC q1 (by omega)) k_X4_cutterOf u_ml_RX4_196 hK hN hP (by omega) hC.1 rfl rfl rfl rfl (Nat.le_of_ble_eq_true rfl) ⟨Nat.le_of_ble_eq_true rfl, Nat.le_of_ble_eq_true rfl⟩ ⟨Nat.le_of_ble_eq_true rfl, Nat.le_of_ble_eq_true rfl⟩ dX4_next_2 ?_
        refine lv_astore_n (lv' := [(3, .ref (ad (45 + 4 * q1))), (0, .ref (ad 0)), (1, .int (xI (q1 : Int))), (2, .int (xI (t2 : Int)))]) hx hb dX4_next_5 rfl hl (by decide) rfl (fun ls hl => ?_)
        refine lv_aload_n hx hb dX4_next_6 rfl (lv_at hl 1 rfl) ?_
        refine lv_iload_n hx hb dX4_next_7 rfl (lv_at hl 3 rfl) ?_
        refine xv_q (i := 0) (As := [.int (xI (t2 : Int))]) (rest := []) ⟨hx, hb, hml, hown, hts⟩ hl.1 (c_X4_textOf_in l D cA n ad en (by omega) hC t2 (by omega)) k_X4_textOf u_ml_RX4_97 hK hN hP (by omega) hC.1 rfl rfl rfl rfl (Nat.le_of_ble_eq_true rfl) ⟨Nat.le_of_ble_eq_true rfl, Nat.le_of_ble_eq_true rfl⟩ ⟨Nat.le_of_ble_eq_true rfl, Nat.le_of_ble_eq_true rfl⟩ dX4_next_8 ?_
        refine lv_astore (lv' := [(4, .ref (ad (21 + 3 * t2))), (3, .ref (ad (45 + 4 * q1))), (0, .ref (ad 0)), (1, .int (xI (q1 : Int))), (2, .int (xI (t2 : Int)))]) hx hb dX4_next_11 hl (by decide) rfl (fun ls hl => ?_)
        refine lv_aload_n hx hb dX4_next_13 rfl (lv_at hl 1 rfl) ?_
        refine lv_ifnull hx hb dX4_next_14 ?_
        refine lv_aload hx hb dX4_next_17 (lv_at hl 0 rfl) ?_
        refine lv_ifnonnull (tgt := 26) hx hb dX4_next_19 (by decide) ?_
        refine lv_aload_n hx hb dX4_next_26 rfl (lv_at hl 1 rfl) ?_
        refine x_getn (T := TX0) (N := 5) hx hb hts uX0 hown hN hK hP (i := 45 + 4 * q1) (by omega) hk_q1 rfl 3 (by decide) (by simp only [xNest, List.mem_cons]; exact Or.inr (Or.inr (Or.inr (Or.inr (Or.inr (Or.inr (Or.inr (Or.inl rfl)))))))) rfl dX4_next_27 ?_
        refine x_if_eq (tgt := 39) hx hb dX4_next_30 (by decide) (by omega) (fun c_30 => absurd c_30 (by omega)) (fun c_30 => ?_)
        refine x_sipush hx hb dX4_next_33 (by decide +kernel) ?_
        refine lv_goto (tgt := 45) hx hb dX4_next_36 (by decide) ?_
        exact xe_i hx hb hrt hlocks hP hS ((by unfold am_next; simp only [Int.toNat_natCast]; rw [sp_if_f (by omega), sp_if_t (by simp [hS_q1])]; exact ⟨rfl, hC, xO.rf⟩)) dX4_next_45
      · have hC_q1 : XC cA ad en (45 + 4 * q1) none := by have q : XC cA ad en (45 + 4 * q1) (S.2.2.2 q1) := hC.rc h_q1; rw [hS_q1] at q; exact q
        obtain ⟨kG_q1, kp_q1, hk_q1, -⟩ := hC_q1
        refine lv_aload_n hx hb dX4_next_0 rfl (lv_at hl 0 rfl) ?_
        refine lv_iload_n hx hb dX4_next_1 rfl (lv_at hl 1 rfl) ?_
        refine xv_q (i := 0) (As := [.int (xI (q1 : Int))]) (rest := []) ⟨hx, hb, hml, hown, hts⟩ hl.1 (c_X4_cutterOf_in l D cA n ad en (by omega) hC q1 (by omega)) k_X4_cutterOf u_ml_RX4_196 hK hN hP (by omega) hC.1 rfl rfl rfl rfl (Nat.le_of_ble_eq_true rfl) ⟨Nat.le_of_ble_eq_true rfl, Nat.le_of_ble_eq_true rfl⟩ ⟨Nat.le_of_ble_eq_true rfl, Nat.le_of_ble_eq_true rfl⟩ dX4_next_2 ?_
        refine lv_astore_n (lv' := [(3, .ref (ad (45 + 4 * q1))), (0, .ref (ad 0)), (1, .int (xI (q1 : Int))), (2, .int (xI z2))]) hx hb dX4_next_5 rfl hl (by decide) rfl (fun ls hl => ?_)
        refine lv_aload_n hx hb dX4_next_6 rfl (lv_at hl 1 rfl) ?_
        refine lv_iload_n hx hb dX4_next_7 rfl (lv_at hl 3 rfl) ?_
        refine xv_q (i := 0) (As := [.int (xI z2)]) (rest := []) ⟨hx, hb, hml, hown, hts⟩ hl.1 (c_X4_textOf_out l D cA n ad en (by omega) hC z2 (by omega) (by omega)) k_X4_textOf u_ml_RX4_97 hK hN hP (by omega) hC.1 rfl rfl rfl rfl (Nat.le_of_ble_eq_true rfl) ⟨Nat.le_of_ble_eq_true rfl, Nat.le_of_ble_eq_true rfl⟩ ⟨Nat.le_of_ble_eq_true rfl, Nat.le_of_ble_eq_true rfl⟩ dX4_next_8 ?_
        refine lv_astoreN (lv' := [(4, .null), (3, .ref (ad (45 + 4 * q1))), (0, .ref (ad 0)), (1, .int (xI (q1 : Int))), (2, .int (xI z2))]) hx hb dX4_next_11 hl (by decide) rfl (fun ls hl => ?_)
        refine lv_aload_n hx hb dX4_next_13 rfl (lv_at hl 1 rfl) ?_
        refine lv_ifnull hx hb dX4_next_14 ?_
        refine lv_aloadN hx hb dX4_next_17 (lv_at hl 0 rfl) ?_
        refine lv_ifnonnullN hx hb dX4_next_19 ?_
        refine x_sipush hx hb dX4_next_22 (by decide +kernel) ?_
        exact xe_i hx hb hrt hlocks hP hS ((by unfold am_next; simp only [Int.toNat_natCast]; rw [sp_if_t (by omega)]; exact ⟨rfl, hC, xO.rf⟩)) dX4_next_25
    · rcases Classical.em (0 ≤ z2 ∧ z2 < 8) with hx_z2 | hx_z2
      · obtain ⟨t2, rfl⟩ : ∃ q : Nat, z2 = (q : Int) := ⟨z2.toNat, by omega⟩
        have h_t2 : t2 < 8 := by omega
        have hC_q1 : XC cA ad en (45 + 4 * q1) (some r_q1) := by have q : XC cA ad en (45 + 4 * q1) (S.2.2.2 q1) := hC.rc h_q1; rw [hS_q1] at q; exact q
        have hk_q1 := hC_q1.k.1
        have hp_q1 := hC_q1.k.2
        have hm_q1 := hk_q1.2.1.2.2.1
        have hT_t2 : XT cA ad en (21 + 3 * t2) (S.2.1 t2) := hC.rt h_t2
        obtain ⟨zm_t2, tm_t2, tf_t2, hO_t2, hr_t2⟩ := hT_t2.any
        refine lv_aload_n hx hb dX4_next_0 rfl (lv_at hl 0 rfl) ?_
        refine lv_iload_n hx hb dX4_next_1 rfl (lv_at hl 1 rfl) ?_
        refine xv_q (i := 0) (As := [.int (xI (q1 : Int))]) (rest := []) ⟨hx, hb, hml, hown, hts⟩ hl.1 (c_X4_cutterOf_in l D cA n ad en (by omega) hC q1 (by omega)) k_X4_cutterOf u_ml_RX4_196 hK hN hP (by omega) hC.1 rfl rfl rfl rfl (Nat.le_of_ble_eq_true rfl) ⟨Nat.le_of_ble_eq_true rfl, Nat.le_of_ble_eq_true rfl⟩ ⟨Nat.le_of_ble_eq_true rfl, Nat.le_of_ble_eq_true rfl⟩ dX4_next_2 ?_
        refine lv_astore_n (lv' := [(3, .ref (ad (45 + 4 * q1))), (0, .ref (ad 0)), (1, .int (xI (q1 : Int))), (2, .int (xI (t2 : Int)))]) hx hb dX4_next_5 rfl hl (by decide) rfl (fun ls hl => ?_)
        refine lv_aload_n hx hb dX4_next_6 rfl (lv_at hl 1 rfl) ?_
        refine lv_iload_n hx hb dX4_next_7 rfl (lv_at hl 3 rfl) ?_
        refine xv_q (i := 0) (As := [.int (xI (t2 : Int))]) (rest := []) ⟨hx, hb, hml, hown, hts⟩ hl.1 (c_X4_textOf_in l D cA n ad en (by omega) hC t2 (by omega)) k_X4_textOf u_ml_RX4_97 hK hN hP (by omega) hC.1 rfl rfl rfl rfl (Nat.le_of_ble_eq_true rfl) ⟨Nat.le_of_ble_eq_true rfl, Nat.le_of_ble_eq_true rfl⟩ ⟨Nat.le_of_ble_eq_true rfl, Nat.le_of_ble_eq_true rfl⟩ dX4_next_8 ?_
        refine lv_astore (lv' := [(4, .ref (ad (21 + 3 * t2))), (3, .ref (ad (45 + 4 * q1))), (0, .ref (ad 0)), (1, .int (xI (q1 : Int))), (2, .int (xI (t2 : Int)))]) hx hb dX4_next_11 hl (by decide) rfl (fun ls hl => ?_)
        refine lv_aload_n hx hb dX4_next_13 rfl (lv_at hl 1 rfl) ?_
        refine lv_ifnull hx hb dX4_next_14 ?_
        refine lv_aload hx hb dX4_next_17 (lv_at hl 0 rfl) ?_
        refine lv_ifnonnull (tgt := 26) hx hb dX4_next_19 (by decide) ?_
        refine lv_aload_n hx hb dX4_next_26 rfl (lv_at hl 1 rfl) ?_
        refine x_getn (T := TX0) (N := 5) hx hb hts uX0 hown hN hK hP (i := 45 + 4 * q1) (by omega) hk_q1.1 rfl 3 (by decide) (by simp only [xNest, List.mem_cons]; exact Or.inr (Or.inr (Or.inr (Or.inr (Or.inr (Or.inr (Or.inr (Or.inl rfl)))))))) rfl dX4_next_27 ?_
        refine x_if_eq (tgt := 39) hx hb dX4_next_30 (by decide) (by omega) (fun c_30 => ?_) (fun c_30 => absurd c_30 (by omega))
        refine lv_aload_n hx hb dX4_next_39 rfl (lv_at hl 1 rfl) ?_
        refine lv_aload hx hb dX4_next_40 (lv_at hl 0 rfl) ?_
        have hb8 := sp_ts_b (G := r_q1.2.2.1) (S := r_q1.2.1) (f := r_q1.1.2) (m := (r_q1.1.1 : Int)) (a := (r_q1.2.2.2 : Int)) (by omega)
        refine xm_i (i := 45 + 4 * q1) (As := [.ref (ad (21 + 3 * t2))]) (rest := []) ⟨hx, hb, hml, hown, hts⟩ hl.1 (c_X0_giveToken l D cA n ad en _ (by omega) hk_q1 (by omega) (by omega) hT_t2 (by omega)) k_X0_giveToken u_ml_RX4_212 hK hN hP (by omega) hk_q1.1 rfl rfl rfl rfl (Nat.le_of_ble_eq_true rfl) ⟨Nat.le_of_ble_eq_true rfl, Nat.le_of_ble_eq_true rfl⟩ ⟨Nat.le_of_ble_eq_true rfl, Nat.le_of_ble_eq_true rfl⟩ dX4_next_42 hD hS hA (fun r1 en1 H locs hp1 hP hS => ?_)
        rcases hp1 with ⟨h1e, hrv, hk9, ho9⟩ | ⟨h1e, hrv, v9, ⟨hk9, ho9⟩, hT9, ho10⟩
        · subst hrv
          have hC9 := hC.cutter h_q1 ((ho9.mo (by omega) (by omega))) (XC.no hk9)
          have ho : xO 0 53 en en1 := (ho9.mo (by omega) (by omega))
          exact xe_i hx hb hrt hlocks hP hS ((by unfold am_next; simp only [Int.toNat_natCast]; simp only [sp_getc_s hS_q1]; rw [sp_if_f (by omega), sp_if_f (by simp [hS_q1])]; rw [sp_nxt_e (q := r_q1) h1e]; exact ⟨rfl, hC9, ho.mo (by omega) (by omega)⟩)) dX4_next_45
        · have hb9 := sp_te_b (S := r_q1.2.1) (f := r_q1.1.2) (m := (r_q1.1.1 : Int)) (a := (sp_ts r_q1.2.2.1 r_q1.2.1 r_q1.1.2 (r_q1.1.1 : Int) (r_q1.2.2.2 : Int))) (by omega)
          subst hrv
          have hC8 := hC.cutter h_q1 ((ho9.mo (by omega) (by omega))) (XC.of (p := Int.toNat (sp_te r_q1.2.1 r_q1.1.2 (r_q1.1.1 : Int) (sp_ts r_q1.2.2.1 r_q1.2.1 r_q1.1.2 (r_q1.1.1 : Int) (r_q1.2.2.2 : Int)))) hk9 (by omega) (by omega))
          have hC9 := hC8.text h_t2 (ho10.mo (by omega) (by omega)) hT9
          have ho : xO 0 53 en en1 := xO.tr ((ho9.mo (by omega) (by omega))) (ho10.mo (by omega) (by omega))
          exact xe_i hx hb hrt hlocks hP hS ((by unfold am_next; simp only [Int.toNat_natCast]; simp only [sp_getc_s hS_q1]; rw [sp_if_f (by omega), sp_if_f (by simp [hS_q1])]; rw [sp_nxt_g (q := r_q1) h1e]; exact ⟨rfl, hC9, ho.mo (by omega) (by omega)⟩)) dX4_next_45
      · have hC_q1 : XC cA ad en (45 + 4 * q1) (some r_q1) := by have q : XC cA ad en (45 + 4 * q1) (S.2.2.2 q1) := hC.rc h_q1; rw [hS_q1] at q; exact q
        have hk_q1 := hC_q1.k.1
        have hp_q1 := hC_q1.k.2
        have hm_q1 := hk_q1.2.1.2.2.1
        refine lv_aload_n hx hb dX4_next_0 rfl (lv_at hl 0 rfl) ?_
        refine lv_iload_n hx hb dX4_next_1 rfl (lv_at hl 1 rfl) ?_
        refine xv_q (i := 0) (As := [.int (xI (q1 : Int))]) (rest := []) ⟨hx, hb, hml, hown, hts⟩ hl.1 (c_X4_cutterOf_in l D cA n ad en (by omega) hC q1 (by omega)) k_X4_cutterOf u_ml_RX4_196 hK hN hP (by omega) hC.1 rfl rfl rfl rfl (Nat.le_of_ble_eq_true rfl) ⟨Nat.le_of_ble_eq_true rfl, Nat.le_of_ble_eq_true rfl⟩ ⟨Nat.le_of_ble_eq_true rfl, Nat.le_of_ble_eq_true rfl⟩ dX4_next_2 ?_
        refine lv_astore_n (lv' := [(3, .ref (ad (45 + 4 * q1))), (0, .ref (ad 0)), (1, .int (xI (q1 : Int))), (2, .int (xI z2))]) hx hb dX4_next_5 rfl hl (by decide) rfl (fun ls hl => ?_)
        refine lv_aload_n hx hb dX4_next_6 rfl (lv_at hl 1 rfl) ?_
        refine lv_iload_n hx hb dX4_next_7 rfl (lv_at hl 3 rfl) ?_
        refine xv_q (i := 0) (As := [.int (xI z2)]) (rest := []) ⟨hx, hb, hml, hown, hts⟩ hl.1 (c_X4_textOf_out l D cA n ad en (by omega) hC z2 (by omega) (by omega)) k_X4_textOf u_ml_RX4_97 hK hN hP (by omega) hC.1 rfl rfl rfl rfl (Nat.le_of_ble_eq_true rfl) ⟨Nat.le_of_ble_eq_true rfl, Nat.le_of_ble_eq_true rfl⟩ ⟨Nat.le_of_ble_eq_true rfl, Nat.le_of_ble_eq_true rfl⟩ dX4_next_8 ?_
        refine lv_astoreN (lv' := [(4, .null), (3, .ref (ad (45 + 4 * q1))), (0, .ref (ad 0)), (1, .int (xI (q1 : Int))), (2, .int (xI z2))]) hx hb dX4_next_11 hl (by decide) rfl (fun ls hl => ?_)
        refine lv_aload_n hx hb dX4_next_13 rfl (lv_at hl 1 rfl) ?_
        refine lv_ifnull hx hb dX4_next_14 ?_
        refine lv_aloadN hx hb dX4_next_17 (lv_at hl 0 rfl) ?_
        refine lv_ifnonnullN hx hb dX4_next_19 ?_
        refine x_sipush hx hb dX4_next_22 (by decide +kernel) ?_
        exact xe_i hx hb hrt hlocks hP hS ((by unfold am_next; simp only [Int.toNat_natCast]; simp only [sp_getc_s hS_q1]; rw [sp_if_t (by omega)]; exact ⟨rfl, hC, xO.rf⟩)) dX4_next_25
  · rcases Classical.em (0 ≤ z2 ∧ z2 < 8) with hx_z2 | hx_z2
    · obtain ⟨t2, rfl⟩ : ∃ q : Nat, z2 = (q : Int) := ⟨z2.toNat, by omega⟩
      have h_t2 : t2 < 8 := by omega
      have hT_t2 : XT cA ad en (21 + 3 * t2) (S.2.1 t2) := hC.rt h_t2
      obtain ⟨zm_t2, tm_t2, tf_t2, hO_t2, hr_t2⟩ := hT_t2.any
      refine lv_aload_n hx hb dX4_next_0 rfl (lv_at hl 0 rfl) ?_
      refine lv_iload_n hx hb dX4_next_1 rfl (lv_at hl 1 rfl) ?_
      refine xv_q (i := 0) (As := [.int (xI z1)]) (rest := []) ⟨hx, hb, hml, hown, hts⟩ hl.1 (c_X4_cutterOf_out l D cA n ad en (by omega) hC z1 (by omega) (by omega)) k_X4_cutterOf u_ml_RX4_196 hK hN hP (by omega) hC.1 rfl rfl rfl rfl (Nat.le_of_ble_eq_true rfl) ⟨Nat.le_of_ble_eq_true rfl, Nat.le_of_ble_eq_true rfl⟩ ⟨Nat.le_of_ble_eq_true rfl, Nat.le_of_ble_eq_true rfl⟩ dX4_next_2 ?_
      refine lv_astore_nN (lv' := [(3, .null), (0, .ref (ad 0)), (1, .int (xI z1)), (2, .int (xI (t2 : Int)))]) hx hb dX4_next_5 rfl hl (by decide) rfl (fun ls hl => ?_)
      refine lv_aload_n hx hb dX4_next_6 rfl (lv_at hl 1 rfl) ?_
      refine lv_iload_n hx hb dX4_next_7 rfl (lv_at hl 3 rfl) ?_
      refine xv_q (i := 0) (As := [.int (xI (t2 : Int))]) (rest := []) ⟨hx, hb, hml, hown, hts⟩ hl.1 (c_X4_textOf_in l D cA n ad en (by omega) hC t2 (by omega)) k_X4_textOf u_ml_RX4_97 hK hN hP (by omega) hC.1 rfl rfl rfl rfl (Nat.le_of_ble_eq_true rfl) ⟨Nat.le_of_ble_eq_true rfl, Nat.le_of_ble_eq_true rfl⟩ ⟨Nat.le_of_ble_eq_true rfl, Nat.le_of_ble_eq_true rfl⟩ dX4_next_8 ?_
      refine lv_astore (lv' := [(4, .ref (ad (21 + 3 * t2))), (3, .null), (0, .ref (ad 0)), (1, .int (xI z1)), (2, .int (xI (t2 : Int)))]) hx hb dX4_next_11 hl (by decide) rfl (fun ls hl => ?_)
      refine lv_aload_nN hx hb dX4_next_13 rfl (lv_at hl 1 rfl) ?_
      refine lv_ifnullN (tgt := 22) hx hb dX4_next_14 (by decide) ?_
      refine x_sipush hx hb dX4_next_22 (by decide +kernel) ?_
      exact xe_i hx hb hrt hlocks hP hS ((by unfold am_next; simp only [Int.toNat_natCast]; rw [sp_if_t (by omega)]; exact ⟨rfl, hC, xO.rf⟩)) dX4_next_25
    · refine lv_aload_n hx hb dX4_next_0 rfl (lv_at hl 0 rfl) ?_
      refine lv_iload_n hx hb dX4_next_1 rfl (lv_at hl 1 rfl) ?_
      refine xv_q (i := 0) (As := [.int (xI z1)]) (rest := []) ⟨hx, hb, hml, hown, hts⟩ hl.1 (c_X4_cutterOf_out l D cA n ad en (by omega) hC z1 (by omega) (by omega)) k_X4_cutterOf u_ml_RX4_196 hK hN hP (by omega) hC.1 rfl rfl rfl rfl (Nat.le_of_ble_eq_true rfl) ⟨Nat.le_of_ble_eq_true rfl, Nat.le_of_ble_eq_true rfl⟩ ⟨Nat.le_of_ble_eq_true rfl, Nat.le_of_ble_eq_true rfl⟩ dX4_next_2 ?_
      refine lv_astore_nN (lv' := [(3, .null), (0, .ref (ad 0)), (1, .int (xI z1)), (2, .int (xI z2))]) hx hb dX4_next_5 rfl hl (by decide) rfl (fun ls hl => ?_)
      refine lv_aload_n hx hb dX4_next_6 rfl (lv_at hl 1 rfl) ?_
      refine lv_iload_n hx hb dX4_next_7 rfl (lv_at hl 3 rfl) ?_
      refine xv_q (i := 0) (As := [.int (xI z2)]) (rest := []) ⟨hx, hb, hml, hown, hts⟩ hl.1 (c_X4_textOf_out l D cA n ad en (by omega) hC z2 (by omega) (by omega)) k_X4_textOf u_ml_RX4_97 hK hN hP (by omega) hC.1 rfl rfl rfl rfl (Nat.le_of_ble_eq_true rfl) ⟨Nat.le_of_ble_eq_true rfl, Nat.le_of_ble_eq_true rfl⟩ ⟨Nat.le_of_ble_eq_true rfl, Nat.le_of_ble_eq_true rfl⟩ dX4_next_8 ?_
      refine lv_astoreN (lv' := [(4, .null), (3, .null), (0, .ref (ad 0)), (1, .int (xI z1)), (2, .int (xI z2))]) hx hb dX4_next_11 hl (by decide) rfl (fun ls hl => ?_)
      refine lv_aload_nN hx hb dX4_next_13 rfl (lv_at hl 1 rfl) ?_
      refine lv_ifnullN (tgt := 22) hx hb dX4_next_14 (by decide) ?_
      refine x_sipush hx hb dX4_next_22 (by decide +kernel) ?_
      exact xe_i hx hb hrt hlocks hP hS ((by unfold am_next; rw [sp_if_t (by omega)]; exact ⟨rfl, hC, xO.rf⟩)) dX4_next_25

set_option maxRecDepth 20000 in
theorem c_X4_nextBy (l : Launch) (D : va_G) (cA : Nat → ClassId) (n : Nat) (ad : Nat → Nat) (en : Nat → va_E) (sz : Nat) (hn : 53 ≤ n) {S : xSt} (hC : CW cA ad en S) (z1 : Int) (hz1 : -2147483648 ≤ z1 ∧ z1 ≤ 2147483647) (z2 : Int) (hz2 : -2147483648 ≤ z2 ∧ z2 ≤ 2147483647) (z3 : Int) (hz3 : -2147483648 ≤ z3 ∧ z3 ≤ 2147483647) : Met l yX4_nextBy (Cond.code yX4_nextBy cX4_nextBy 7 (some .int) :: xU) (xrm 5 108) (va_Pc [.ref (ad 0), .int (xI z1), .int (xI z2), .int (xI z3)] (xM D cA n ad en sz)) (va_Qi (fun r u => r = xI (am_nextBy S z1 z2 z3).1 ∧ CW cA ad u (am_nextBy S z1 z2 z3).2 ∧ xO 0 53 en u) (xE D n ad) (xA n ad sz)) 0 0 (xA n ad sz) := by
  refine xmet (by decide) (Nat.le_of_ble_eq_true rfl) (fun p e s mm args below meth c ls hx hb hrt hml hown hts hlocks hname hB hl => ?_)
  obtain ⟨⟨hP, hK, hN⟩, hsz, hDt⟩ := hB
  have hD : xD (xA n ad sz) n ad := xD_self hDt sz
  have hA : ∀ q : Nat, s.heap.size ≤ q → xA n ad sz q := fun q h => Or.inr (by rw [← hsz]; exact h)
  have hS : va_S (xA n ad sz) s.heap s.heap [] := va_S.rf
  have hown : s.vm.findClass RX4 = some mm.cls := hown
  have hl : lv_has ls 7 [(0, .ref (ad 0)), (1, .int (xI z1)), (2, .int (xI z2)), (3, .int (xI z3))] := hl
  rcases Classical.em (0 ≤ z1 ∧ z1 < 2) with hx_z1 | hx_z1
  · obtain ⟨q1, rfl⟩ : ∃ q : Nat, z1 = (q : Int) := ⟨z1.toNat, by omega⟩
    have h_q1 : q1 < 2 := by omega
    rcases hS_q1 : S.2.2.2 q1 with _ | r_q1
    · rcases Classical.em (0 ≤ z2 ∧ z2 < 8) with hx_z2 | hx_z2
      · obtain ⟨t2, rfl⟩ : ∃ q : Nat, z2 = (q : Int) := ⟨z2.toNat, by omega⟩
        have h_t2 : t2 < 8 := by omega
        rcases hS_t2 : S.2.1 t2 with _ | r_t2
        · rcases Classical.em (0 ≤ z3 ∧ z3 < 8) with hx_z3 | hx_z3
          · obtain ⟨t3, rfl⟩ : ∃ q : Nat, z3 = (q : Int) := ⟨z3.toNat, by omega⟩
            have h_t3 : t3 < 8 := by omega
            have hC_q1 : XC cA ad en (45 + 4 * q1) none := by have q : XC cA ad en (45 + 4 * q1) (S.2.2.2 q1) := hC.rc h_q1; rw [hS_q1] at q; exact q
            obtain ⟨kG_q1, kp_q1, hk_q1, -⟩ := hC_q1
            have hT_t2 : XT cA ad en (21 + 3 * t2) none := by have q : XT cA ad en (21 + 3 * t2) (S.2.1 t2) := hC.rt h_t2; rw [hS_t2] at q; exact q
            have hT_t3 : XT cA ad en (21 + 3 * t3) (S.2.1 t3) := hC.rt h_t3
            obtain ⟨zm_t3, tm_t3, tf_t3, hO_t3, hr_t3⟩ := hT_t3.any
            refine lv_aload_n hx hb dX4_nextBy_0 rfl (lv_at hl 0 rfl) ?_
            refine lv_iload_n hx hb dX4_nextBy_1 rfl (lv_at hl 1 rfl) ?_
            refine xv_q (i := 0) (As := [.int (xI (q1 : Int))]) (rest := []) ⟨hx, hb, hml, hown, hts⟩ hl.1 (c_X4_cutterOf_in l D cA n ad en (by omega) hC q1 (by omega)) k_X4_cutterOf u_ml_RX4_196 hK hN hP (by omega) hC.1 rfl rfl rfl rfl (Nat.le_of_ble_eq_true rfl) ⟨Nat.le_of_ble_eq_true rfl, Nat.le_of_ble_eq_true rfl⟩ ⟨Nat.le_of_ble_eq_true rfl, Nat.le_of_ble_eq_true rfl⟩ dX4_nextBy_2 ?_
            refine lv_astore (lv' := [(4, .ref (ad (45 + 4 * q1))), (0, .ref (ad 0)), (1, .int (xI (q1 : Int))), (2, .int (xI (t2 : Int))), (3, .int (xI (t3 : Int)))]) hx hb dX4_nextBy_5 hl (by decide) rfl (fun ls hl => ?_)
            refine lv_aload_n hx hb dX4_nextBy_7 rfl (lv_at hl 1 rfl) ?_
            refine lv_iload_n hx hb dX4_nextBy_8 rfl (lv_at hl 3 rfl) ?_
            refine xv_q (i := 0) (As := [.int (xI (t2 : Int))]) (rest := []) ⟨hx, hb, hml, hown, hts⟩ hl.1 (c_X4_textOf_in l D cA n ad en (by omega) hC t2 (by omega)) k_X4_textOf u_ml_RX4_97 hK hN hP (by omega) hC.1 rfl rfl rfl rfl (Nat.le_of_ble_eq_true rfl) ⟨Nat.le_of_ble_eq_true rfl, Nat.le_of_ble_eq_true rfl⟩ ⟨Nat.le_of_ble_eq_true rfl, Nat.le_of_ble_eq_true rfl⟩ dX4_nextBy_9 ?_
            refine lv_astore (lv' := [(5, .ref (ad (21 + 3 * t2))), (4, .ref (ad (45 + 4 * q1))), (0, .ref (ad 0)), (1, .int (xI (q1 : Int))), (2, .int (xI (t2 : Int))), (3, .int (xI (t3 : Int)))]) hx hb dX4_nextBy_12 hl (by decide) rfl (fun ls hl => ?_)
            refine lv_aload_n hx hb dX4_nextBy_14 rfl (lv_at hl 2 rfl) ?_
            refine lv_iload_n hx hb dX4_nextBy_15 rfl (lv_at hl 5 rfl) ?_
            refine xv_q (i := 0) (As := [.int (xI (t3 : Int))]) (rest := []) ⟨hx, hb, hml, hown, hts⟩ hl.1 (c_X4_textOf_in l D cA n ad en (by omega) hC t3 (by omega)) k_X4_textOf u_ml_RX4_97 hK hN hP (by omega) hC.1 rfl rfl rfl rfl (Nat.le_of_ble_eq_true rfl) ⟨Nat.le_of_ble_eq_true rfl, Nat.le_of_ble_eq_true rfl⟩ ⟨Nat.le_of_ble_eq_true rfl, Nat.le_of_ble_eq_true rfl⟩ dX4_nextBy_16 ?_
            refine lv_astore (lv' := [(6, .ref (ad (21 + 3 * t3))), (5, .ref (ad (21 + 3 * t2))), (4, .ref (ad (45 + 4 * q1))), (0, .ref (ad 0)), (1, .int (xI (q1 : Int))), (2, .int (xI (t2 : Int))), (3, .int (xI (t3 : Int)))]) hx hb dX4_nextBy_19 hl (by decide) rfl (fun ls hl => ?_)
            refine lv_aload hx hb dX4_nextBy_21 (lv_at hl 2 rfl) ?_
            refine lv_ifnull hx hb dX4_nextBy_23 ?_
            refine lv_aload hx hb dX4_nextBy_26 (lv_at hl 1 rfl) ?_
            refine lv_ifnull hx hb dX4_nextBy_28 ?_
            refine lv_aload hx hb dX4_nextBy_31 (lv_at hl 0 rfl) ?_
            refine lv_ifnonnull (tgt := 40) hx hb dX4_nextBy_33 (by decide) ?_
            refine lv_aload hx hb dX4_nextBy_40 (lv_at hl 2 rfl) ?_
            refine x_getn (T := TX0) (N := 5) hx hb hts uX0 hown hN hK hP (i := 45 + 4 * q1) (by omega) hk_q1 rfl 3 (by decide) (by simp only [xNest, List.mem_cons]; exact Or.inr (Or.inr (Or.inr (Or.inr (Or.inr (Or.inr (Or.inr (Or.inl rfl)))))))) rfl dX4_nextBy_42 ?_
            refine x_if_ne (tgt := 56) hx hb dX4_nextBy_45 (by decide) (by omega) (fun c_45 => ?_) (fun c_45 => absurd c_45 (by omega))
            refine x_sipush hx hb dX4_nextBy_56 (by decide +kernel) ?_
            exact xe_i hx hb hrt hlocks hP hS ((by unfold am_nextBy; simp only [Int.toNat_natCast]; rw [sp_if_f (by omega), sp_if_t (by simp [hS_q1, hS_t2])]; exact ⟨rfl, hC, xO.rf⟩)) dX4_nextBy_59
          · have hC_q1 : XC cA ad en (45 + 4 * q1) none := by have q : XC cA ad en (45 + 4 * q1) (S.2.2.2 q1) := hC.rc h_q1; rw [hS_q1] at q; exact q
            obtain ⟨kG_q1, kp_q1, hk_q1, -⟩ := hC_q1
            have hT_t2 : XT cA ad en (21 + 3 * t2) none := by have q : XT cA ad en (21 + 3 * t2) (S.2.1 t2) := hC.rt h_t2; rw [hS_t2] at q; exact q
            refine lv_aload_n hx hb dX4_nextBy_0 rfl (lv_at hl 0 rfl) ?_
            refine lv_iload_n hx hb dX4_nextBy_1 rfl (lv_at hl 1 rfl) ?_
            refine xv_q (i := 0) (As := [.int (xI (q1 : Int))]) (rest := []) ⟨hx, hb, hml, hown, hts⟩ hl.1 (c_X4_cutterOf_in l D cA n ad en (by omega) hC q1 (by omega)) k_X4_cutterOf u_ml_RX4_196 hK hN hP (by omega) hC.1 rfl rfl rfl rfl (Nat.le_of_ble_eq_true rfl) ⟨Nat.le_of_ble_eq_true rfl, Nat.le_of_ble_eq_true rfl⟩ ⟨Nat.le_of_ble_eq_true rfl, Nat.le_of_ble_eq_true rfl⟩ dX4_nextBy_2 ?_
            refine lv_astore (lv' := [(4, .ref (ad (45 + 4 * q1))), (0, .ref (ad 0)), (1, .int (xI (q1 : Int))), (2, .int (xI (t2 : Int))), (3, .int (xI z3))]) hx hb dX4_nextBy_5 hl (by decide) rfl (fun ls hl => ?_)
            refine lv_aload_n hx hb dX4_nextBy_7 rfl (lv_at hl 1 rfl) ?_
            refine lv_iload_n hx hb dX4_nextBy_8 rfl (lv_at hl 3 rfl) ?_
            refine xv_q (i := 0) (As := [.int (xI (t2 : Int))]) (rest := []) ⟨hx, hb, hml, hown, hts⟩ hl.1 (c_X4_textOf_in l D cA n ad en (by omega) hC t2 (by omega)) k_X4_textOf u_ml_RX4_97 hK hN hP (by omega) hC.1 rfl rfl rfl rfl (Nat.le_of_ble_eq_true rfl) ⟨Nat.le_of_ble_eq_true rfl, Nat.le_of_ble_eq_true rfl⟩ ⟨Nat.le_of_ble_eq_true rfl, Nat.le_of_ble_eq_true rfl⟩ dX4_nextBy_9 ?_
            refine lv_astore (lv' := [(5, .ref (ad (21 + 3 * t2))), (4, .ref (ad (45 + 4 * q1))), (0, .ref (ad 0)), (1, .int (xI (q1 : Int))), (2, .int (xI (t2 : Int))), (3, .int (xI z3))]) hx hb dX4_nextBy_12 hl (by decide) rfl (fun ls hl => ?_)
            refine lv_aload_n hx hb dX4_nextBy_14 rfl (lv_at hl 2 rfl) ?_
            refine lv_iload_n hx hb dX4_nextBy_15 rfl (lv_at hl 5 rfl) ?_
            refine xv_q (i := 0) (As := [.int (xI z3)]) (rest := []) ⟨hx, hb, hml, hown, hts⟩ hl.1 (c_X4_textOf_out l D cA n ad en (by omega) hC z3 (by omega) (by omega)) k_X4_textOf u_ml_RX4_97 hK hN hP (by omega) hC.1 rfl rfl rfl rfl (Nat.le_of_ble_eq_true rfl) ⟨Nat.le_of_ble_eq_true rfl, Nat.le_of_ble_eq_true rfl⟩ ⟨Nat.le_of_ble_eq_true rfl, Nat.le_of_ble_eq_true rfl⟩ dX4_nextBy_16 ?_
            refine lv_astoreN (lv' := [(6, .null), (5, .ref (ad (21 + 3 * t2))), (4, .ref (ad (45 + 4 * q1))), (0, .ref (ad 0)), (1, .int (xI (q1 : Int))), (2, .int (xI (t2 : Int))), (3, .int (xI z3))]) hx hb dX4_nextBy_19 hl (by decide) rfl (fun ls hl => ?_)
            refine lv_aload hx hb dX4_nextBy_21 (lv_at hl 2 rfl) ?_
            refine lv_ifnull hx hb dX4_nextBy_23 ?_
            refine lv_aload hx hb dX4_nextBy_26 (lv_at hl 1 rfl) ?_
            refine lv_ifnull hx hb dX4_nextBy_28 ?_
            refine lv_aloadN hx hb dX4_nextBy_31 (lv_at hl 0 rfl) ?_
            refine lv_ifnonnullN hx hb dX4_nextBy_33 ?_
            refine x_sipush hx hb dX4_nextBy_36 (by decide +kernel) ?_
            exact xe_i hx hb hrt hlocks hP hS ((by unfold am_nextBy; simp only [Int.toNat_natCast]; rw [sp_if_t (by omega)]; exact ⟨rfl, hC, xO.rf⟩)) dX4_nextBy_39
        · rcases Classical.em (0 ≤ z3 ∧ z3 < 8) with hx_z3 | hx_z3
          · obtain ⟨t3, rfl⟩ : ∃ q : Nat, z3 = (q : Int) := ⟨z3.toNat, by omega⟩
            have h_t3 : t3 < 8 := by omega
            have hC_q1 : XC cA ad en (45 + 4 * q1) none := by have q : XC cA ad en (45 + 4 * q1) (S.2.2.2 q1) := hC.rc h_q1; rw [hS_q1] at q; exact q
            obtain ⟨kG_q1, kp_q1, hk_q1, -⟩ := hC_q1
            have hT_t2 : XT cA ad en (21 + 3 * t2) (some r_t2) := by have q : XT cA ad en (21 + 3 * t2) (S.2.1 t2) := hC.rt h_t2; rw [hS_t2] at q; exact q
            have hr_t2 := hT_t2.2
            have hm_t2 := hr_t2.2.2.1
            have hT_t3 : XT cA ad en (21 + 3 * t3) (S.2.1 t3) := hC.rt h_t3
            obtain ⟨zm_t3, tm_t3, tf_t3, hO_t3, hr_t3⟩ := hT_t3.any
            refine lv_aload_n hx hb dX4_nextBy_0 rfl (lv_at hl 0 rfl) ?_
            refine lv_iload_n hx hb dX4_nextBy_1 rfl (lv_at hl 1 rfl) ?_
            refine xv_q (i := 0) (As := [.int (xI (q1 : Int))]) (rest := []) ⟨hx, hb, hml, hown, hts⟩ hl.1 (c_X4_cutterOf_in l D cA n ad en (by omega) hC q1 (by omega)) k_X4_cutterOf u_ml_RX4_196 hK hN hP (by omega) hC.1 rfl rfl rfl rfl (Nat.le_of_ble_eq_true rfl) ⟨Nat.le_of_ble_eq_true rfl, Nat.le_of_ble_eq_true rfl⟩ ⟨Nat.le_of_ble_eq_true rfl, Nat.le_of_ble_eq_true rfl⟩ dX4_nextBy_2 ?_
            refine lv_astore (lv' := [(4, .ref (ad (45 + 4 * q1))), (0, .ref (ad 0)), (1, .int (xI (q1 : Int))), (2, .int (xI (t2 : Int))), (3, .int (xI (t3 : Int)))]) hx hb dX4_nextBy_5 hl (by decide) rfl (fun ls hl => ?_)
            refine lv_aload_n hx hb dX4_nextBy_7 rfl (lv_at hl 1 rfl) ?_
            refine lv_iload_n hx hb dX4_nextBy_8 rfl (lv_at hl 3 rfl) ?_
            refine xv_q (i := 0) (As := [.int (xI (t2 : Int))]) (rest := []) ⟨hx, hb, hml, hown, hts⟩ hl.1 (c_X4_textOf_in l D cA n ad en (by omega) hC t2 (by omega)) k_X4_textOf u_ml_RX4_97 hK hN hP (by omega) hC.1 rfl rfl rfl rfl (Nat.le_of_ble_eq_true rfl) ⟨Nat.le_of_ble_eq_true rfl, Nat.le_of_ble_eq_true rfl⟩ ⟨Nat.le_of_ble_eq_true rfl, Nat.le_of_ble_eq_true rfl⟩ dX4_nextBy_9 ?_
            refine lv_astore (lv' := [(5, .ref (ad (21 + 3 * t2))), (4, .ref (ad (45 + 4 * q1))), (0, .ref (ad 0)), (1, .int (xI (q1 : Int))), (2, .int (xI (t2 : Int))), (3, .int (xI (t3 : Int)))]) hx hb dX4_nextBy_12 hl (by decide) rfl (fun ls hl => ?_)
            refine lv_aload_n hx hb dX4_nextBy_14 rfl (lv_at hl 2 rfl) ?_
            refine lv_iload_n hx hb dX4_nextBy_15 rfl (lv_at hl 5 rfl) ?_
            refine xv_q (i := 0) (As := [.int (xI (t3 : Int))]) (rest := []) ⟨hx, hb, hml, hown, hts⟩ hl.1 (c_X4_textOf_in l D cA n ad en (by omega) hC t3 (by omega)) k_X4_textOf u_ml_RX4_97 hK hN hP (by omega) hC.1 rfl rfl rfl rfl (Nat.le_of_ble_eq_true rfl) ⟨Nat.le_of_ble_eq_true rfl, Nat.le_of_ble_eq_true rfl⟩ ⟨Nat.le_of_ble_eq_true rfl, Nat.le_of_ble_eq_true rfl⟩ dX4_nextBy_16 ?_
            refine lv_astore (lv' := [(6, .ref (ad (21 + 3 * t3))), (5, .ref (ad (21 + 3 * t2))), (4, .ref (ad (45 + 4 * q1))), (0, .ref (ad 0)), (1, .int (xI (q1 : Int))), (2, .int (xI (t2 : Int))), (3, .int (xI (t3 : Int)))]) hx hb dX4_nextBy_19 hl (by decide) rfl (fun ls hl => ?_)
            refine lv_aload hx hb dX4_nextBy_21 (lv_at hl 2 rfl) ?_
            refine lv_ifnull hx hb dX4_nextBy_23 ?_
            refine lv_aload hx hb dX4_nextBy_26 (lv_at hl 1 rfl) ?_
            refine lv_ifnull hx hb dX4_nextBy_28 ?_
            refine lv_aload hx hb dX4_nextBy_31 (lv_at hl 0 rfl) ?_
            refine lv_ifnonnull (tgt := 40) hx hb dX4_nextBy_33 (by decide) ?_
            refine lv_aload hx hb dX4_nextBy_40 (lv_at hl 2 rfl) ?_
            refine x_getn (T := TX0) (N := 5) hx hb hts uX0 hown hN hK hP (i := 45 + 4 * q1) (by omega) hk_q1 rfl 3 (by decide) (by simp only [xNest, List.mem_cons]; exact Or.inr (Or.inr (Or.inr (Or.inr (Or.inr (Or.inr (Or.inr (Or.inl rfl)))))))) rfl dX4_nextBy_42 ?_
            refine x_if_ne (tgt := 56) hx hb dX4_nextBy_45 (by decide) (by omega) (fun c_45 => ?_) (fun c_45 => absurd c_45 (by omega))
            refine x_sipush hx hb dX4_nextBy_56 (by decide +kernel) ?_
            exact xe_i hx hb hrt hlocks hP hS ((by unfold am_nextBy; simp only [Int.toNat_natCast]; simp only [sp_get_s hS_t2]; rw [sp_if_f (by omega), sp_if_t (by simp [hS_q1, hS_t2])]; exact ⟨rfl, hC, xO.rf⟩)) dX4_nextBy_59
          · have hC_q1 : XC cA ad en (45 + 4 * q1) none := by have q : XC cA ad en (45 + 4 * q1) (S.2.2.2 q1) := hC.rc h_q1; rw [hS_q1] at q; exact q
            obtain ⟨kG_q1, kp_q1, hk_q1, -⟩ := hC_q1
            have hT_t2 : XT cA ad en (21 + 3 * t2) (some r_t2) := by have q : XT cA ad en (21 + 3 * t2) (S.2.1 t2) := hC.rt h_t2; rw [hS_t2] at q; exact q
            have hr_t2 := hT_t2.2
            have hm_t2 := hr_t2.2.2.1
            refine lv_aload_n hx hb dX4_nextBy_0 rfl (lv_at hl 0 rfl) ?_
            refine lv_iload_n hx hb dX4_nextBy_1 rfl (lv_at hl 1 rfl) ?_
            refine xv_q (i := 0) (As := [.int (xI (q1 : Int))]) (rest := []) ⟨hx, hb, hml, hown, hts⟩ hl.1 (c_X4_cutterOf_in l D cA n ad en (by omega) hC q1 (by omega)) k_X4_cutterOf u_ml_RX4_196 hK hN hP (by omega) hC.1 rfl rfl rfl rfl (Nat.le_of_ble_eq_true rfl) ⟨Nat.le_of_ble_eq_true rfl, Nat.le_of_ble_eq_true rfl⟩ ⟨Nat.le_of_ble_eq_true rfl, Nat.le_of_ble_eq_true rfl⟩ dX4_nextBy_2 ?_
            refine lv_astore (lv' := [(4, .ref (ad (45 + 4 * q1))), (0, .ref (ad 0)), (1, .int (xI (q1 : Int))), (2, .int (xI (t2 : Int))), (3, .int (xI z3))]) hx hb dX4_nextBy_5 hl (by decide) rfl (fun ls hl => ?_)
            refine lv_aload_n hx hb dX4_nextBy_7 rfl (lv_at hl 1 rfl) ?_
            refine lv_iload_n hx hb dX4_nextBy_8 rfl (lv_at hl 3 rfl) ?_
            refine xv_q (i := 0) (As := [.int (xI (t2 : Int))]) (rest := []) ⟨hx, hb, hml, hown, hts⟩ hl.1 (c_X4_textOf_in l D cA n ad en (by omega) hC t2 (by omega)) k_X4_textOf u_ml_RX4_97 hK hN hP (by omega) hC.1 rfl rfl rfl rfl (Nat.le_of_ble_eq_true rfl) ⟨Nat.le_of_ble_eq_true rfl, Nat.le_of_ble_eq_true rfl⟩ ⟨Nat.le_of_ble_eq_true rfl, Nat.le_of_ble_eq_true rfl⟩ dX4_nextBy_9 ?_
            refine lv_astore (lv' := [(5, .ref (ad (21 + 3 * t2))), (4, .ref (ad (45 + 4 * q1))), (0, .ref (ad 0)), (1, .int (xI (q1 : Int))), (2, .int (xI (t2 : Int))), (3, .int (xI z3))]) hx hb dX4_nextBy_12 hl (by decide) rfl (fun ls hl => ?_)
            refine lv_aload_n hx hb dX4_nextBy_14 rfl (lv_at hl 2 rfl) ?_
            refine lv_iload_n hx hb dX4_nextBy_15 rfl (lv_at hl 5 rfl) ?_
            refine xv_q (i := 0) (As := [.int (xI z3)]) (rest := []) ⟨hx, hb, hml, hown, hts⟩ hl.1 (c_X4_textOf_out l D cA n ad en (by omega) hC z3 (by omega) (by omega)) k_X4_textOf u_ml_RX4_97 hK hN hP (by omega) hC.1 rfl rfl rfl rfl (Nat.le_of_ble_eq_true rfl) ⟨Nat.le_of_ble_eq_true rfl, Nat.le_of_ble_eq_true rfl⟩ ⟨Nat.le_of_ble_eq_true rfl, Nat.le_of_ble_eq_true rfl⟩ dX4_nextBy_16 ?_
            refine lv_astoreN (lv' := [(6, .null), (5, .ref (ad (21 + 3 * t2))), (4, .ref (ad (45 + 4 * q1))), (0, .ref (ad 0)), (1, .int (xI (q1 : Int))), (2, .int (xI (t2 : Int))), (3, .int (xI z3))]) hx hb dX4_nextBy_19 hl (by decide) rfl (fun ls hl => ?_)
            refine lv_aload hx hb dX4_nextBy_21 (lv_at hl 2 rfl) ?_
            refine lv_ifnull hx hb dX4_nextBy_23 ?_
            refine lv_aload hx hb dX4_nextBy_26 (lv_at hl 1 rfl) ?_
            refine lv_ifnull hx hb dX4_nextBy_28 ?_
            refine lv_aloadN hx hb dX4_nextBy_31 (lv_at hl 0 rfl) ?_
            refine lv_ifnonnullN hx hb dX4_nextBy_33 ?_
            refine x_sipush hx hb dX4_nextBy_36 (by decide +kernel) ?_
            exact xe_i hx hb hrt hlocks hP hS ((by unfold am_nextBy; simp only [Int.toNat_natCast]; simp only [sp_get_s hS_t2]; rw [sp_if_t (by omega)]; exact ⟨rfl, hC, xO.rf⟩)) dX4_nextBy_39
      · rcases Classical.em (0 ≤ z3 ∧ z3 < 8) with hx_z3 | hx_z3
        · obtain ⟨t3, rfl⟩ : ∃ q : Nat, z3 = (q : Int) := ⟨z3.toNat, by omega⟩
          have h_t3 : t3 < 8 := by omega
          have hC_q1 : XC cA ad en (45 + 4 * q1) none := by have q : XC cA ad en (45 + 4 * q1) (S.2.2.2 q1) := hC.rc h_q1; rw [hS_q1] at q; exact q
          obtain ⟨kG_q1, kp_q1, hk_q1, -⟩ := hC_q1
          have hT_t3 : XT cA ad en (21 + 3 * t3) (S.2.1 t3) := hC.rt h_t3
          obtain ⟨zm_t3, tm_t3, tf_t3, hO_t3, hr_t3⟩ := hT_t3.any
          refine lv_aload_n hx hb dX4_nextBy_0 rfl (lv_at hl 0 rfl) ?_
          refine lv_iload_n hx hb dX4_nextBy_1 rfl (lv_at hl 1 rfl) ?_
          refine xv_q (i := 0) (As := [.int (xI (q1 : Int))]) (rest := []) ⟨hx, hb, hml, hown, hts⟩ hl.1 (c_X4_cutterOf_in l D cA n ad en (by omega) hC q1 (by omega)) k_X4_cutterOf u_ml_RX4_196 hK hN hP (by omega) hC.1 rfl rfl rfl rfl (Nat.le_of_ble_eq_true rfl) ⟨Nat.le_of_ble_eq_true rfl, Nat.le_of_ble_eq_true rfl⟩ ⟨Nat.le_of_ble_eq_true rfl, Nat.le_of_ble_eq_true rfl⟩ dX4_nextBy_2 ?_
          refine lv_astore (lv' := [(4, .ref (ad (45 + 4 * q1))), (0, .ref (ad 0)), (1, .int (xI (q1 : Int))), (2, .int (xI z2)), (3, .int (xI (t3 : Int)))]) hx hb dX4_nextBy_5 hl (by decide) rfl (fun ls hl => ?_)
          refine lv_aload_n hx hb dX4_nextBy_7 rfl (lv_at hl 1 rfl) ?_
          refine lv_iload_n hx hb dX4_nextBy_8 rfl (lv_at hl 3 rfl) ?_
          refine xv_q (i := 0) (As := [.int (xI z2)]) (rest := []) ⟨hx, hb, hml, hown, hts⟩ hl.1 (c_X4_textOf_out l D cA n ad en (by omega) hC z2 (by omega) (by omega)) k_X4_textOf u_ml_RX4_97 hK hN hP (by omega) hC.1 rfl rfl rfl rfl (Nat.le_of_ble_eq_true rfl) ⟨Nat.le_of_ble_eq_true rfl, Nat.le_of_ble_eq_true rfl⟩ ⟨Nat.le_of_ble_eq_true rfl, Nat.le_of_ble_eq_true rfl⟩ dX4_nextBy_9 ?_
          refine lv_astoreN (lv' := [(5, .null), (4, .ref (ad (45 + 4 * q1))), (0, .ref (ad 0)), (1, .int (xI (q1 : Int))), (2, .int (xI z2)), (3, .int (xI (t3 : Int)))]) hx hb dX4_nextBy_12 hl (by decide) rfl (fun ls hl => ?_)
          refine lv_aload_n hx hb dX4_nextBy_14 rfl (lv_at hl 2 rfl) ?_
          refine lv_iload_n hx hb dX4_nextBy_15 rfl (lv_at hl 5 rfl) ?_
          refine xv_q (i := 0) (As := [.int (xI (t3 : Int))]) (rest := []) ⟨hx, hb, hml, hown, hts⟩ hl.1 (c_X4_textOf_in l D cA n ad en (by omega) hC t3 (by omega)) k_X4_textOf u_ml_RX4_97 hK hN hP (by omega) hC.1 rfl rfl rfl rfl (Nat.le_of_ble_eq_true rfl) ⟨Nat.le_of_ble_eq_true rfl, Nat.le_of_ble_eq_true rfl⟩ ⟨Nat.le_of_ble_eq_true rfl, Nat.le_of_ble_eq_true rfl⟩ dX4_nextBy_16 ?_
          refine lv_astore (lv' := [(6, .ref (ad (21 + 3 * t3))), (5, .null), (4, .ref (ad (45 + 4 * q1))), (0, .ref (ad 0)), (1, .int (xI (q1 : Int))), (2, .int (xI z2)), (3, .int (xI (t3 : Int)))]) hx hb dX4_nextBy_19 hl (by decide) rfl (fun ls hl => ?_)
          refine lv_aload hx hb dX4_nextBy_21 (lv_at hl 2 rfl) ?_
          refine lv_ifnull hx hb dX4_nextBy_23 ?_
          refine lv_aloadN hx hb dX4_nextBy_26 (lv_at hl 1 rfl) ?_
          refine lv_ifnullN (tgt := 36) hx hb dX4_nextBy_28 (by decide) ?_
          refine x_sipush hx hb dX4_nextBy_36 (by decide +kernel) ?_
          exact xe_i hx hb hrt hlocks hP hS ((by unfold am_nextBy; simp only [Int.toNat_natCast]; rw [sp_if_t (by omega)]; exact ⟨rfl, hC, xO.rf⟩)) dX4_nextBy_39
        · have hC_q1 : XC cA ad en (45 + 4 * q1) none := by have q : XC cA ad en (45 + 4 * q1) (S.2.2.2 q1) := hC.rc h_q1; rw [hS_q1] at q; exact q
          obtain ⟨kG_q1, kp_q1, hk_q1, -⟩ := hC_q1
          refine lv_aload_n hx hb dX4_nextBy_0 rfl (lv_at hl 0 rfl) ?_
          refine lv_iload_n hx hb dX4_nextBy_1 rfl (lv_at hl 1 rfl) ?_
          refine xv_q (i := 0) (As := [.int (xI (q1 : Int))]) (rest := []) ⟨hx, hb, hml, hown, hts⟩ hl.1 (c_X4_cutterOf_in l D cA n ad en (by omega) hC q1 (by omega)) k_X4_cutterOf u_ml_RX4_196 hK hN hP (by omega) hC.1 rfl rfl rfl rfl (Nat.le_of_ble_eq_true rfl) ⟨Nat.le_of_ble_eq_true rfl, Nat.le_of_ble_eq_true rfl⟩ ⟨Nat.le_of_ble_eq_true rfl, Nat.le_of_ble_eq_true rfl⟩ dX4_nextBy_2 ?_
          refine lv_astore (lv' := [(4, .ref (ad (45 + 4 * q1))), (0, .ref (ad 0)), (1, .int (xI (q1 : Int))), (2, .int (xI z2)), (3, .int (xI z3))]) hx hb dX4_nextBy_5 hl (by decide) rfl (fun ls hl => ?_)
          refine lv_aload_n hx hb dX4_nextBy_7 rfl (lv_at hl 1 rfl) ?_
          refine lv_iload_n hx hb dX4_nextBy_8 rfl (lv_at hl 3 rfl) ?_
          refine xv_q (i := 0) (As := [.int (xI z2)]) (rest := []) ⟨hx, hb, hml, hown, hts⟩ hl.1 (c_X4_textOf_out l D cA n ad en (by omega) hC z2 (by omega) (by omega)) k_X4_textOf u_ml_RX4_97 hK hN hP (by omega) hC.1 rfl rfl rfl rfl (Nat.le_of_ble_eq_true rfl) ⟨Nat.le_of_ble_eq_true rfl, Nat.le_of_ble_eq_true rfl⟩ ⟨Nat.le_of_ble_eq_true rfl, Nat.le_of_ble_eq_true rfl⟩ dX4_nextBy_9 ?_
          refine lv_astoreN (lv' := [(5, .null), (4, .ref (ad (45 + 4 * q1))), (0, .ref (ad 0)), (1, .int (xI (q1 : Int))), (2, .int (xI z2)), (3, .int (xI z3))]) hx hb dX4_nextBy_12 hl (by decide) rfl (fun ls hl => ?_)
          refine lv_aload_n hx hb dX4_nextBy_14 rfl (lv_at hl 2 rfl) ?_
          refine lv_iload_n hx hb dX4_nextBy_15 rfl (lv_at hl 5 rfl) ?_
          refine xv_q (i := 0) (As := [.int (xI z3)]) (rest := []) ⟨hx, hb, hml, hown, hts⟩ hl.1 (c_X4_textOf_out l D cA n ad en (by omega) hC z3 (by omega) (by omega)) k_X4_textOf u_ml_RX4_97 hK hN hP (by omega) hC.1 rfl rfl rfl rfl (Nat.le_of_ble_eq_true rfl) ⟨Nat.le_of_ble_eq_true rfl, Nat.le_of_ble_eq_true rfl⟩ ⟨Nat.le_of_ble_eq_true rfl, Nat.le_of_ble_eq_true rfl⟩ dX4_nextBy_16 ?_
          refine lv_astoreN (lv' := [(6, .null), (5, .null), (4, .ref (ad (45 + 4 * q1))), (0, .ref (ad 0)), (1, .int (xI (q1 : Int))), (2, .int (xI z2)), (3, .int (xI z3))]) hx hb dX4_nextBy_19 hl (by decide) rfl (fun ls hl => ?_)
          refine lv_aload hx hb dX4_nextBy_21 (lv_at hl 2 rfl) ?_
          refine lv_ifnull hx hb dX4_nextBy_23 ?_
          refine lv_aloadN hx hb dX4_nextBy_26 (lv_at hl 1 rfl) ?_
          refine lv_ifnullN (tgt := 36) hx hb dX4_nextBy_28 (by decide) ?_
          refine x_sipush hx hb dX4_nextBy_36 (by decide +kernel) ?_
          exact xe_i hx hb hrt hlocks hP hS ((by unfold am_nextBy; simp only [Int.toNat_natCast]; rw [sp_if_t (by omega)]; exact ⟨rfl, hC, xO.rf⟩)) dX4_nextBy_39
    · rcases Classical.em (0 ≤ z2 ∧ z2 < 8) with hx_z2 | hx_z2
      · obtain ⟨t2, rfl⟩ : ∃ q : Nat, z2 = (q : Int) := ⟨z2.toNat, by omega⟩
        have h_t2 : t2 < 8 := by omega
        rcases hS_t2 : S.2.1 t2 with _ | r_t2
        · rcases Classical.em (0 ≤ z3 ∧ z3 < 8) with hx_z3 | hx_z3
          · obtain ⟨t3, rfl⟩ : ∃ q : Nat, z3 = (q : Int) := ⟨z3.toNat, by omega⟩
            have h_t3 : t3 < 8 := by omega
            have hC_q1 : XC cA ad en (45 + 4 * q1) (some r_q1) := by have q : XC cA ad en (45 + 4 * q1) (S.2.2.2 q1) := hC.rc h_q1; rw [hS_q1] at q; exact q
            have hk_q1 := hC_q1.k.1
            have hp_q1 := hC_q1.k.2
            have hm_q1 := hk_q1.2.1.2.2.1
            have hT_t2 : XT cA ad en (21 + 3 * t2) none := by have q : XT cA ad en (21 + 3 * t2) (S.2.1 t2) := hC.rt h_t2; rw [hS_t2] at q; exact q
            have hT_t3 : XT cA ad en (21 + 3 * t3) (S.2.1 t3) := hC.rt h_t3
            obtain ⟨zm_t3, tm_t3, tf_t3, hO_t3, hr_t3⟩ := hT_t3.any
            refine lv_aload_n hx hb dX4_nextBy_0 rfl (lv_at hl 0 rfl) ?_
            refine lv_iload_n hx hb dX4_nextBy_1 rfl (lv_at hl 1 rfl) ?_
            refine xv_q (i := 0) (As := [.int (xI (q1 : Int))]) (rest := []) ⟨hx, hb, hml, hown, hts⟩ hl.1 (c_X4_cutterOf_in l D cA n ad en (by omega) hC q1 (by omega)) k_X4_cutterOf u_ml_RX4_196 hK hN hP (by omega) hC.1 rfl rfl rfl rfl (Nat.le_of_ble_eq_true rfl) ⟨Nat.le_of_ble_eq_true rfl, Nat.le_of_ble_eq_true rfl⟩ ⟨Nat.le_of_ble_eq_true rfl, Nat.le_of_ble_eq_true rfl⟩ dX4_nextBy_2 ?_
            refine lv_astore (lv' := [(4, .ref (ad (45 + 4 * q1))), (0, .ref (ad 0)), (1, .int (xI (q1 : Int))), (2, .int (xI (t2 : Int))), (3, .int (xI (t3 : Int)))]) hx hb dX4_nextBy_5 hl (by decide) rfl (fun ls hl => ?_)
            refine lv_aload_n hx hb dX4_nextBy_7 rfl (lv_at hl 1 rfl) ?_
            refine lv_iload_n hx hb dX4_nextBy_8 rfl (lv_at hl 3 rfl) ?_
            refine xv_q (i := 0) (As := [.int (xI (t2 : Int))]) (rest := []) ⟨hx, hb, hml, hown, hts⟩ hl.1 (c_X4_textOf_in l D cA n ad en (by omega) hC t2 (by omega)) k_X4_textOf u_ml_RX4_97 hK hN hP (by omega) hC.1 rfl rfl rfl rfl (Nat.le_of_ble_eq_true rfl) ⟨Nat.le_of_ble_eq_true rfl, Nat.le_of_ble_eq_true rfl⟩ ⟨Nat.le_of_ble_eq_true rfl, Nat.le_of_ble_eq_true rfl⟩ dX4_nextBy_9 ?_
            refine lv_astore (lv' := [(5, .ref (ad (21 + 3 * t2))), (4, .ref (ad (45 + 4 * q1))), (0, .ref (ad 0)), (1, .int (xI (q1 : Int))), (2, .int (xI (t2 : Int))), (3, .int (xI (t3 : Int)))]) hx hb dX4_nextBy_12 hl (by decide) rfl (fun ls hl => ?_)
            refine lv_aload_n hx hb dX4_nextBy_14 rfl (lv_at hl 2 rfl) ?_
            refine lv_iload_n hx hb dX4_nextBy_15 rfl (lv_at hl 5 rfl) ?_
            refine xv_q (i := 0) (As := [.int (xI (t3 : Int))]) (rest := []) ⟨hx, hb, hml, hown, hts⟩ hl.1 (c_X4_textOf_in l D cA n ad en (by omega) hC t3 (by omega)) k_X4_textOf u_ml_RX4_97 hK hN hP (by omega) hC.1 rfl rfl rfl rfl (Nat.le_of_ble_eq_true rfl) ⟨Nat.le_of_ble_eq_true rfl, Nat.le_of_ble_eq_true rfl⟩ ⟨Nat.le_of_ble_eq_true rfl, Nat.le_of_ble_eq_true rfl⟩ dX4_nextBy_16 ?_
            refine lv_astore (lv' := [(6, .ref (ad (21 + 3 * t3))), (5, .ref (ad (21 + 3 * t2))), (4, .ref (ad (45 + 4 * q1))), (0, .ref (ad 0)), (1, .int (xI (q1 : Int))), (2, .int (xI (t2 : Int))), (3, .int (xI (t3 : Int)))]) hx hb dX4_nextBy_19 hl (by decide) rfl (fun ls hl => ?_)
            refine lv_aload hx hb dX4_nextBy_21 (lv_at hl 2 rfl) ?_
            refine lv_ifnull hx hb dX4_nextBy_23 ?_
            refine lv_aload hx hb dX4_nextBy_26 (lv_at hl 1 rfl) ?_
            refine lv_ifnull hx hb dX4_nextBy_28 ?_
            refine lv_aload hx hb dX4_nextBy_31 (lv_at hl 0 rfl) ?_
            refine lv_ifnonnull (tgt := 40) hx hb dX4_nextBy_33 (by decide) ?_
            refine lv_aload hx hb dX4_nextBy_40 (lv_at hl 2 rfl) ?_
            refine x_getn (T := TX0) (N := 5) hx hb hts uX0 hown hN hK hP (i := 45 + 4 * q1) (by omega) hk_q1.1 rfl 3 (by decide) (by simp only [xNest, List.mem_cons]; exact Or.inr (Or.inr (Or.inr (Or.inr (Or.inr (Or.inr (Or.inr (Or.inl rfl)))))))) rfl dX4_nextBy_42 ?_
            refine x_if_ne (tgt := 56) hx hb dX4_nextBy_45 (by decide) (by omega) (fun c_45 => absurd c_45 (by omega)) (fun c_45 => ?_)
            refine lv_aload hx hb dX4_nextBy_48 (lv_at hl 1 rfl) ?_
            refine x_getn (T := TX3) (N := 2) hx hb hts uX3 hown hN hK hP (i := 21 + 3 * t2) (by omega) hT_t2.1 rfl 1 (by decide) (by simp only [xNest, List.mem_cons]; exact Or.inr (Or.inr (Or.inr (Or.inr (Or.inr (Or.inr (Or.inl rfl))))))) rfl dX4_nextBy_50 ?_
            refine x_if_eq (tgt := 60) hx hb dX4_nextBy_53 (by decide) (by omega) (fun c_53 => absurd c_53 (by omega)) (fun c_53 => ?_)
            refine x_sipush hx hb dX4_nextBy_56 (by decide +kernel) ?_
            exact xe_i hx hb hrt hlocks hP hS ((by unfold am_nextBy; simp only [Int.toNat_natCast]; simp only [sp_getc_s hS_q1]; rw [sp_if_f (by omega), sp_if_t (by simp [hS_q1, hS_t2])]; exact ⟨rfl, hC, xO.rf⟩)) dX4_nextBy_59
          · have hC_q1 : XC cA ad en (45 + 4 * q1) (some r_q1) := by have q : XC cA ad en (45 + 4 * q1) (S.2.2.2 q1) := hC.rc h_q1; rw [hS_q1] at q; exact q
            have hk_q1 := hC_q1.k.1
            have hp_q1 := hC_q1.k.2
            have hm_q1 := hk_q1.2.1.2.2.1
            have hT_t2 : XT cA ad en (21 + 3 * t2) none := by have q : XT cA ad en (21 + 3 * t2) (S.2.1 t2) := hC.rt h_t2; rw [hS_t2] at q; exact q
            refine lv_aload_n hx hb dX4_nextBy_0 rfl (lv_at hl 0 rfl) ?_
            refine lv_iload_n hx hb dX4_nextBy_1 rfl (lv_at hl 1 rfl) ?_
            refine xv_q (i := 0) (As := [.int (xI (q1 : Int))]) (rest := []) ⟨hx, hb, hml, hown, hts⟩ hl.1 (c_X4_cutterOf_in l D cA n ad en (by omega) hC q1 (by omega)) k_X4_cutterOf u_ml_RX4_196 hK hN hP (by omega) hC.1 rfl rfl rfl rfl (Nat.le_of_ble_eq_true rfl) ⟨Nat.le_of_ble_eq_true rfl, Nat.le_of_ble_eq_true rfl⟩ ⟨Nat.le_of_ble_eq_true rfl, Nat.le_of_ble_eq_true rfl⟩ dX4_nextBy_2 ?_
            refine lv_astore (lv' := [(4, .ref (ad (45 + 4 * q1))), (0, .ref (ad 0)), (1, .int (xI (q1 : Int))), (2, .int (xI (t2 : Int))), (3, .int (xI z3))]) hx hb dX4_nextBy_5 hl (by decide) rfl (fun ls hl => ?_)
            refine lv_aload_n hx hb dX4_nextBy_7 rfl (lv_at hl 1 rfl) ?_
            refine lv_iload_n hx hb dX4_nextBy_8 rfl (lv_at hl 3 rfl) ?_
            refine xv_q (i := 0) (As := [.int (xI (t2 : Int))]) (rest := []) ⟨hx, hb, hml, hown, hts⟩ hl.1 (c_X4_textOf_in l D cA n ad en (by omega) hC t2 (by omega)) k_X4_textOf u_ml_RX4_97 hK hN hP (by omega) hC.1 rfl rfl rfl rfl (Nat.le_of_ble_eq_true rfl) ⟨Nat.le_of_ble_eq_true rfl, Nat.le_of_ble_eq_true rfl⟩ ⟨Nat.le_of_ble_eq_true rfl, Nat.le_of_ble_eq_true rfl⟩ dX4_nextBy_9 ?_
            refine lv_astore (lv' := [(5, .ref (ad (21 + 3 * t2))), (4, .ref (ad (45 + 4 * q1))), (0, .ref (ad 0)), (1, .int (xI (q1 : Int))), (2, .int (xI (t2 : Int))), (3, .int (xI z3))]) hx hb dX4_nextBy_12 hl (by decide) rfl (fun ls hl => ?_)
            refine lv_aload_n hx hb dX4_nextBy_14 rfl (lv_at hl 2 rfl) ?_
            refine lv_iload_n hx hb dX4_nextBy_15 rfl (lv_at hl 5 rfl) ?_
            refine xv_q (i := 0) (As := [.int (xI z3)]) (rest := []) ⟨hx, hb, hml, hown, hts⟩ hl.1 (c_X4_textOf_out l D cA n ad en (by omega) hC z3 (by omega) (by omega)) k_X4_textOf u_ml_RX4_97 hK hN hP (by omega) hC.1 rfl rfl rfl rfl (Nat.le_of_ble_eq_true rfl) ⟨Nat.le_of_ble_eq_true rfl, Nat.le_of_ble_eq_true rfl⟩ ⟨Nat.le_of_ble_eq_true rfl, Nat.le_of_ble_eq_true rfl⟩ dX4_nextBy_16 ?_
            refine lv_astoreN (lv' := [(6, .null), (5, .ref (ad (21 + 3 * t2))), (4, .ref (ad (45 + 4 * q1))), (0, .ref (ad 0)), (1, .int (xI (q1 : Int))), (2, .int (xI (t2 : Int))), (3, .int (xI z3))]) hx hb dX4_nextBy_19 hl (by decide) rfl (fun ls hl => ?_)
            refine lv_aload hx hb dX4_nextBy_21 (lv_at hl 2 rfl) ?_
            refine lv_ifnull hx hb dX4_nextBy_23 ?_
            refine lv_aload hx hb dX4_nextBy_26 (lv_at hl 1 rfl) ?_
            refine lv_ifnull hx hb dX4_nextBy_28 ?_
            refine lv_aloadN hx hb dX4_nextBy_31 (lv_at hl 0 rfl) ?_
            refine lv_ifnonnullN hx hb dX4_nextBy_33 ?_
            refine x_sipush hx hb dX4_nextBy_36 (by decide +kernel) ?_
            exact xe_i hx hb hrt hlocks hP hS ((by unfold am_nextBy; simp only [Int.toNat_natCast]; simp only [sp_getc_s hS_q1]; rw [sp_if_t (by omega)]; exact ⟨rfl, hC, xO.rf⟩)) dX4_nextBy_39
        · rcases Classical.em (0 ≤ z3 ∧ z3 < 8) with hx_z3 | hx_z3
          · obtain ⟨t3, rfl⟩ : ∃ q : Nat, z3 = (q : Int) := ⟨z3.toNat, by omega⟩
            have h_t3 : t3 < 8 := by omega
            have hC_q1 : XC cA ad en (45 + 4 * q1) (some r_q1) := by have q : XC cA ad en (45 + 4 * q1) (S.2.2.2 q1) := hC.rc h_q1; rw [hS_q1] at q; exact q
            have hk_q1 := hC_q1.k.1
            have hp_q1 := hC_q1.k.2
            have hm_q1 := hk_q1.2.1.2.2.1
            have hT_t2 : XT cA ad en (21 + 3 * t2) (some r_t2) := by have q : XT cA ad en (21 + 3 * t2) (S.2.1 t2) := hC.rt h_t2; rw [hS_t2] at q; exact q
            have hr_t2 := hT_t2.2
            have hm_t2 := hr_t2.2.2.1
            have hT_t3 : XT cA ad en (21 + 3 * t3) (S.2.1 t3) := hC.rt h_t3
            obtain ⟨zm_t3, tm_t3, tf_t3, hO_t3, hr_t3⟩ := hT_t3.any
            refine lv_aload_n hx hb dX4_nextBy_0 rfl (lv_at hl 0 rfl) ?_
            refine lv_iload_n hx hb dX4_nextBy_1 rfl (lv_at hl 1 rfl) ?_
            refine xv_q (i := 0) (As := [.int (xI (q1 : Int))]) (rest := []) ⟨hx, hb, hml, hown, hts⟩ hl.1 (c_X4_cutterOf_in l D cA n ad en (by omega) hC q1 (by omega)) k_X4_cutterOf u_ml_RX4_196 hK hN hP (by omega) hC.1 rfl rfl rfl rfl (Nat.le_of_ble_eq_true rfl) ⟨Nat.le_of_ble_eq_true rfl, Nat.le_of_ble_eq_true rfl⟩ ⟨Nat.le_of_ble_eq_true rfl, Nat.le_of_ble_eq_true rfl⟩ dX4_nextBy_2 ?_
            refine lv_astore (lv' := [(4, .ref (ad (45 + 4 * q1))), (0, .ref (ad 0)), (1, .int (xI (q1 : Int))), (2, .int (xI (t2 : Int))), (3, .int (xI (t3 : Int)))]) hx hb dX4_nextBy_5 hl (by decide) rfl (fun ls hl => ?_)
            refine lv_aload_n hx hb dX4_nextBy_7 rfl (lv_at hl 1 rfl) ?_
            refine lv_iload_n hx hb dX4_nextBy_8 rfl (lv_at hl 3 rfl) ?_
            refine xv_q (i := 0) (As := [.int (xI (t2 : Int))]) (rest := []) ⟨hx, hb, hml, hown, hts⟩ hl.1 (c_X4_textOf_in l D cA n ad en (by omega) hC t2 (by omega)) k_X4_textOf u_ml_RX4_97 hK hN hP (by omega) hC.1 rfl rfl rfl rfl (Nat.le_of_ble_eq_true rfl) ⟨Nat.le_of_ble_eq_true rfl, Nat.le_of_ble_eq_true rfl⟩ ⟨Nat.le_of_ble_eq_true rfl, Nat.le_of_ble_eq_true rfl⟩ dX4_nextBy_9 ?_
            refine lv_astore (lv' := [(5, .ref (ad (21 + 3 * t2))), (4, .ref (ad (45 + 4 * q1))), (0, .ref (ad 0)), (1, .int (xI (q1 : Int))), (2, .int (xI (t2 : Int))), (3, .int (xI (t3 : Int)))]) hx hb dX4_nextBy_12 hl (by decide) rfl (fun ls hl => ?_)
            refine lv_aload_n hx hb dX4_nextBy_14 rfl (lv_at hl 2 rfl) ?_
            refine lv_iload_n hx hb dX4_nextBy_15 rfl (lv_at hl 5 rfl) ?_
            refine xv_q (i := 0) (As := [.int (xI (t3 : Int))]) (rest := []) ⟨hx, hb, hml, hown, hts⟩ hl.1 (c_X4_textOf_in l D cA n ad en (by omega) hC t3 (by omega)) k_X4_textOf u_ml_RX4_97 hK hN hP (by omega) hC.1 rfl rfl rfl rfl (Nat.le_of_ble_eq_true rfl) ⟨Nat.le_of_ble_eq_true rfl, Nat.le_of_ble_eq_true rfl⟩ ⟨Nat.le_of_ble_eq_true rfl, Nat.le_of_ble_eq_true rfl⟩ dX4_nextBy_16 ?_
            refine lv_astore (lv' := [(6, .ref (ad (21 + 3 * t3))), (5, .ref (ad (21 + 3 * t2))), (4, .ref (ad (45 + 4 * q1))), (0, .ref (ad 0)), (1, .int (xI (q1 : Int))), (2, .int (xI (t2 : Int))), (3, .int (xI (t3 : Int)))]) hx hb dX4_nextBy_19 hl (by decide) rfl (fun ls hl => ?_)
            refine lv_aload hx hb dX4_nextBy_21 (lv_at hl 2 rfl) ?_
            refine lv_ifnull hx hb dX4_nextBy_23 ?_
            refine lv_aload hx hb dX4_nextBy_26 (lv_at hl 1 rfl) ?_
            refine lv_ifnull hx hb dX4_nextBy_28 ?_
            refine lv_aload hx hb dX4_nextBy_31 (lv_at hl 0 rfl) ?_
            refine lv_ifnonnull (tgt := 40) hx hb dX4_nextBy_33 (by decide) ?_
            refine lv_aload hx hb dX4_nextBy_40 (lv_at hl 2 rfl) ?_
            refine x_getn (T := TX0) (N := 5) hx hb hts uX0 hown hN hK hP (i := 45 + 4 * q1) (by omega) hk_q1.1 rfl 3 (by decide) (by simp only [xNest, List.mem_cons]; exact Or.inr (Or.inr (Or.inr (Or.inr (Or.inr (Or.inr (Or.inr (Or.inl rfl)))))))) rfl dX4_nextBy_42 ?_
            refine x_if_ne (tgt := 56) hx hb dX4_nextBy_45 (by decide) (by omega) (fun c_45 => absurd c_45 (by omega)) (fun c_45 => ?_)
            refine lv_aload hx hb dX4_nextBy_48 (lv_at hl 1 rfl) ?_
            refine x_getn (T := TX3) (N := 2) hx hb hts uX3 hown hN hK hP (i := 21 + 3 * t2) (by omega) hT_t2.1 rfl 1 (by decide) (by simp only [xNest, List.mem_cons]; exact Or.inr (Or.inr (Or.inr (Or.inr (Or.inr (Or.inr (Or.inl rfl))))))) rfl dX4_nextBy_50 ?_
            refine x_if_eq (tgt := 60) hx hb dX4_nextBy_53 (by decide) (by omega) (fun c_53 => ?_) (fun c_53 => absurd c_53 (by omega))
            refine lv_aload hx hb dX4_nextBy_60 (lv_at hl 2 rfl) ?_
            refine lv_aload hx hb dX4_nextBy_62 (lv_at hl 1 rfl) ?_
            refine x_getn (T := TX3) (N := 2) hx hb hts uX3 hown hN hK hP (i := 21 + 3 * t2) (by omega) hT_t2.1 rfl 0 (by decide) (by simp only [xNest, List.mem_cons]; exact Or.inr (Or.inr (Or.inr (Or.inr (Or.inr (Or.inl rfl)))))) rfl dX4_nextBy_64 ?_
            refine xm_v (i := 45 + 4 * q1) (As := [.ref (ad (21 + 3 * t2 + 1))]) (rest := []) ⟨hx, hb, hml, hown, hts⟩ hl.1 (c_X0_separateBy l D cA n ad en _ (by omega) hk_q1.w (by omega) hr_t2 (by omega)) k_X0_separateBy u_ml_RX4_216 hK hN hP (by omega) hk_q1.1 rfl rfl rfl rfl (Nat.le_of_ble_eq_true rfl) ⟨Nat.le_of_ble_eq_true rfl, Nat.le_of_ble_eq_true rfl⟩ ⟨Nat.le_of_ble_eq_true rfl, Nat.le_of_ble_eq_true rfl⟩ dX4_nextBy_67 hD hS hA (fun en1 H locs hp1 hP hS => ?_)
            obtain ⟨hk1, ho1⟩ := hp1
            have ho1 : xO (45 + 4 * q1) (49 + 4 * q1) en en1 := ho1.mo (by omega) (by omega)
            have hC1 := hC.cutter h_q1 ho1 (XC.of hk1 rfl hp_q1)
            refine lv_aload hx hb dX4_nextBy_70 (lv_at hl 2 rfl) ?_
            refine lv_aload hx hb dX4_nextBy_72 (lv_at hl 0 rfl) ?_
            have hb8 := sp_ts_b (G := r_q1.2.2.1) (S := (sp_sep r_t2.2 r_t2.1)) (f := r_q1.1.2) (m := (r_q1.1.1 : Int)) (a := (r_q1.2.2.2 : Int)) (by omega)
            refine xm_i (i := 45 + 4 * q1) (As := [.ref (ad (21 + 3 * t3))]) (rest := []) ⟨hx, hb, hml, hown, hts⟩ hl.1 (c_X0_giveToken l D cA n ad en1 _ (by omega) hk1 (by omega) (by omega) (hC1.rt h_t3) (by omega)) k_X0_giveToken u_ml_RX4_212 hK hN hP (by omega) hk1.1 rfl rfl rfl rfl (Nat.le_of_ble_eq_true rfl) ⟨Nat.le_of_ble_eq_true rfl, Nat.le_of_ble_eq_true rfl⟩ ⟨Nat.le_of_ble_eq_true rfl, Nat.le_of_ble_eq_true rfl⟩ dX4_nextBy_74 hD hS hA (fun r2 en2 H locs hp2 hP hS => ?_)
            rcases hp2 with ⟨h1e, hrv, hk9, ho9⟩ | ⟨h1e, hrv, v9, ⟨hk9, ho9⟩, hT9, ho10⟩
            · subst hrv
              have hC9 := hC.cutter h_q1 (ho1.tr (ho9.mo (by omega) (by omega))) (XC.no hk9)
              have ho : xO 0 53 en en2 := (ho1.mo (by omega) (by omega)).tr (ho9.mo (by omega) (by omega))
              exact xe_i hx hb hrt hlocks hP hS ((by unfold am_nextBy; simp only [Int.toNat_natCast]; simp only [sp_getc_s hS_q1, sp_get_s hS_t2]; rw [sp_if_f (by omega), sp_if_f (by simp [hS_q1, hS_t2])]; rw [sp_nxt_e (q := (r_q1.1, sp_sep r_t2.2 r_t2.1, r_q1.2.2)) h1e]; exact ⟨rfl, hC9, ho.mo (by omega) (by omega)⟩)) dX4_nextBy_77
            · have hb9 := sp_te_b (S := (sp_sep r_t2.2 r_t2.1)) (f := r_q1.1.2) (m := (r_q1.1.1 : Int)) (a := (sp_ts r_q1.2.2.1 (sp_sep r_t2.2 r_t2.1) r_q1.1.2 (r_q1.1.1 : Int) (r_q1.2.2.2 : Int))) (by omega)
              subst hrv
              have hC8 := hC.cutter h_q1 (ho1.tr (ho9.mo (by omega) (by omega))) (XC.of (p := Int.toNat (sp_te (sp_sep r_t2.2 r_t2.1) r_q1.1.2 (r_q1.1.1 : Int) (sp_ts r_q1.2.2.1 (sp_sep r_t2.2 r_t2.1) r_q1.1.2 (r_q1.1.1 : Int) (r_q1.2.2.2 : Int)))) hk9 (by omega) (by omega))
              have hC9 := hC8.text h_t3 (ho10.mo (by omega) (by omega)) hT9
              have ho : xO 0 53 en en2 := xO.tr ((ho1.mo (by omega) (by omega)).tr (ho9.mo (by omega) (by omega))) (ho10.mo (by omega) (by omega))
              exact xe_i hx hb hrt hlocks hP hS ((by unfold am_nextBy; simp only [Int.toNat_natCast]; simp only [sp_getc_s hS_q1, sp_get_s hS_t2]; rw [sp_if_f (by omega), sp_if_f (by simp [hS_q1, hS_t2])]; rw [sp_nxt_g (q := (r_q1.1, sp_sep r_t2.2 r_t2.1, r_q1.2.2)) h1e]; exact ⟨rfl, hC9, ho.mo (by omega) (by omega)⟩)) dX4_nextBy_77
          · have hC_q1 : XC cA ad en (45 + 4 * q1) (some r_q1) := by have q : XC cA ad en (45 + 4 * q1) (S.2.2.2 q1) := hC.rc h_q1; rw [hS_q1] at q; exact q
            have hk_q1 := hC_q1.k.1
            have hp_q1 := hC_q1.k.2
            have hm_q1 := hk_q1.2.1.2.2.1
            have hT_t2 : XT cA ad en (21 + 3 * t2) (some r_t2) := by have q : XT cA ad en (21 + 3 * t2) (S.2.1 t2) := hC.rt h_t2; rw [hS_t2] at q; exact q
            have hr_t2 := hT_t2.2
            have hm_t2 := hr_t2.2.2.1
            refine lv_aload_n hx hb dX4_nextBy_0 rfl (lv_at hl 0 rfl) ?_
            refine lv_iload_n hx hb dX4_nextBy_1 rfl (lv_at hl 1 rfl) ?_
            refine xv_q (i := 0) (As := [.int (xI (q1 : Int))]) (rest := []) ⟨hx, hb, hml, hown, hts⟩ hl.1 (c_X4_cutterOf_in l D cA n ad en (by omega) hC q1 (by omega)) k_X4_cutterOf u_ml_RX4_196 hK hN hP (by omega) hC.1 rfl rfl rfl rfl (Nat.le_of_ble_eq_true rfl) ⟨Nat.le_of_ble_eq_true rfl, Nat.le_of_ble_eq_true rfl⟩ ⟨Nat.le_of_ble_eq_true rfl, Nat.le_of_ble_eq_true rfl⟩ dX4_nextBy_2 ?_
            refine lv_astore (lv' := [(4, .ref (ad (45 + 4 * q1))), (0, .ref (ad 0)), (1, .int (xI (q1 : Int))), (2, .int (xI (t2 : Int))), (3, .int (xI z3))]) hx hb dX4_nextBy_5 hl (by decide) rfl (fun ls hl => ?_)
            refine lv_aload_n hx hb dX4_nextBy_7 rfl (lv_at hl 1 rfl) ?_
            refine lv_iload_n hx hb dX4_nextBy_8 rfl (lv_at hl 3 rfl) ?_
            refine xv_q (i := 0) (As := [.int (xI (t2 : Int))]) (rest := []) ⟨hx, hb, hml, hown, hts⟩ hl.1 (c_X4_textOf_in l D cA n ad en (by omega) hC t2 (by omega)) k_X4_textOf u_ml_RX4_97 hK hN hP (by omega) hC.1 rfl rfl rfl rfl (Nat.le_of_ble_eq_true rfl) ⟨Nat.le_of_ble_eq_true rfl, Nat.le_of_ble_eq_true rfl⟩ ⟨Nat.le_of_ble_eq_true rfl, Nat.le_of_ble_eq_true rfl⟩ dX4_nextBy_9 ?_
            refine lv_astore (lv' := [(5, .ref (ad (21 + 3 * t2))), (4, .ref (ad (45 + 4 * q1))), (0, .ref (ad 0)), (1, .int (xI (q1 : Int))), (2, .int (xI (t2 : Int))), (3, .int (xI z3))]) hx hb dX4_nextBy_12 hl (by decide) rfl (fun ls hl => ?_)
            refine lv_aload_n hx hb dX4_nextBy_14 rfl (lv_at hl 2 rfl) ?_
            refine lv_iload_n hx hb dX4_nextBy_15 rfl (lv_at hl 5 rfl) ?_
            refine xv_q (i := 0) (As := [.int (xI z3)]) (rest := []) ⟨hx, hb, hml, hown, hts⟩ hl.1 (c_X4_textOf_out l D cA n ad en (by omega) hC z3 (by omega) (by omega)) k_X4_textOf u_ml_RX4_97 hK hN hP (by omega) hC.1 rfl rfl rfl rfl (Nat.le_of_ble_eq_true rfl) ⟨Nat.le_of_ble_eq_true rfl, Nat.le_of_ble_eq_true rfl⟩ ⟨Nat.le_of_ble_eq_true rfl, Nat.le_of_ble_eq_true rfl⟩ dX4_nextBy_16 ?_
            refine lv_astoreN (lv' := [(6, .null), (5, .ref (ad (21 + 3 * t2))), (4, .ref (ad (45 + 4 * q1))), (0, .ref (ad 0)), (1, .int (xI (q1 : Int))), (2, .int (xI (t2 : Int))), (3, .int (xI z3))]) hx hb dX4_nextBy_19 hl (by decide) rfl (fun ls hl => ?_)
            refine lv_aload hx hb dX4_nextBy_21 (lv_at hl 2 rfl) ?_
            refine lv_ifnull hx hb dX4_nextBy_23 ?_
            refine lv_aload hx hb dX4_nextBy_26 (lv_at hl 1 rfl) ?_
            refine lv_ifnull hx hb dX4_nextBy_28 ?_
            refine lv_aloadN hx hb dX4_nextBy_31 (lv_at hl 0 rfl) ?_
            refine lv_ifnonnullN hx hb dX4_nextBy_33 ?_
            refine x_sipush hx hb dX4_nextBy_36 (by decide +kernel) ?_
            exact xe_i hx hb hrt hlocks hP hS ((by unfold am_nextBy; simp only [Int.toNat_natCast]; simp only [sp_getc_s hS_q1, sp_get_s hS_t2]; rw [sp_if_t (by omega)]; exact ⟨rfl, hC, xO.rf⟩)) dX4_nextBy_39
      · rcases Classical.em (0 ≤ z3 ∧ z3 < 8) with hx_z3 | hx_z3
        · obtain ⟨t3, rfl⟩ : ∃ q : Nat, z3 = (q : Int) := ⟨z3.toNat, by omega⟩
          have h_t3 : t3 < 8 := by omega
          have hC_q1 : XC cA ad en (45 + 4 * q1) (some r_q1) := by have q : XC cA ad en (45 + 4 * q1) (S.2.2.2 q1) := hC.rc h_q1; rw [hS_q1] at q; exact q
          have hk_q1 := hC_q1.k.1
          have hp_q1 := hC_q1.k.2
          have hm_q1 := hk_q1.2.1.2.2.1
          have hT_t3 : XT cA ad en (21 + 3 * t3) (S.2.1 t3) := hC.rt h_t3
          obtain ⟨zm_t3, tm_t3, tf_t3, hO_t3, hr_t3⟩ := hT_t3.any
          refine lv_aload_n hx hb dX4_nextBy_0 rfl (lv_at hl 0 rfl) ?_
          refine lv_iload_n hx hb dX4_nextBy_1 rfl (lv_at hl 1 rfl) ?_
          refine xv_q (i := 0) (As := [.int (xI (q1 : Int))]) (rest := []) ⟨hx, hb, hml, hown, hts⟩ hl.1 (c_X4_cutterOf_in l D cA n ad en (by omega) hC q1 (by omega)) k_X4_cutterOf u_ml_RX4_196 hK hN hP (by omega) hC.1 rfl rfl rfl rfl (Nat.le_of_ble_eq_true rfl) ⟨Nat.le_of_ble_eq_true rfl, Nat.le_of_ble_eq_true rfl⟩ ⟨Nat.le_of_ble_eq_true rfl, Nat.le_of_ble_eq_true rfl⟩ dX4_nextBy_2 ?_
          refine lv_astore (lv' := [(4, .ref (ad (45 + 4 * q1))), (0, .ref (ad 0)), (1, .int (xI (q1 : Int))), (2, .int (xI z2)), (3, .int (xI (t3 : Int)))]) hx hb dX4_nextBy_5 hl (by decide) rfl (fun ls hl => ?_)
          refine lv_aload_n hx hb dX4_nextBy_7 rfl (lv_at hl 1 rfl) ?_
          refine lv_iload_n hx hb dX4_nextBy_8 rfl (lv_at hl 3 rfl) ?_
          refine xv_q (i := 0) (As := [.int (xI z2)]) (rest := []) ⟨hx, hb, hml, hown, hts⟩ hl.1 (c_X4_textOf_out l D cA n ad en (by omega) hC z2 (by omega) (by omega)) k_X4_textOf u_ml_RX4_97 hK hN hP (by omega) hC.1 rfl rfl rfl rfl (Nat.le_of_ble_eq_true rfl) ⟨Nat.le_of_ble_eq_true rfl, Nat.le_of_ble_eq_true rfl⟩ ⟨Nat.le_of_ble_eq_true rfl, Nat.le_of_ble_eq_true rfl⟩ dX4_nextBy_9 ?_
          refine lv_astoreN (lv' := [(5, .null), (4, .ref (ad (45 + 4 * q1))), (0, .ref (ad 0)), (1, .int (xI (q1 : Int))), (2, .int (xI z2)), (3, .int (xI (t3 : Int)))]) hx hb dX4_nextBy_12 hl (by decide) rfl (fun ls hl => ?_)
          refine lv_aload_n hx hb dX4_nextBy_14 rfl (lv_at hl 2 rfl) ?_
          refine lv_iload_n hx hb dX4_nextBy_15 rfl (lv_at hl 5 rfl) ?_
          refine xv_q (i := 0) (As := [.int (xI (t3 : Int))]) (rest := []) ⟨hx, hb, hml, hown, hts⟩ hl.1 (c_X4_textOf_in l D cA n ad en (by omega) hC t3 (by omega)) k_X4_textOf u_ml_RX4_97 hK hN hP (by omega) hC.1 rfl rfl rfl rfl (Nat.le_of_ble_eq_true rfl) ⟨Nat.le_of_ble_eq_true rfl, Nat.le_of_ble_eq_true rfl⟩ ⟨Nat.le_of_ble_eq_true rfl, Nat.le_of_ble_eq_true rfl⟩ dX4_nextBy_16 ?_
          refine lv_astore (lv' := [(6, .ref (ad (21 + 3 * t3))), (5, .null), (4, .ref (ad (45 + 4 * q1))), (0, .ref (ad 0)), (1, .int (xI (q1 : Int))), (2, .int (xI z2)), (3, .int (xI (t3 : Int)))]) hx hb dX4_nextBy_19 hl (by decide) rfl (fun ls hl => ?_)
          refine lv_aload hx hb dX4_nextBy_21 (lv_at hl 2 rfl) ?_
          refine lv_ifnull hx hb dX4_nextBy_23 ?_
          refine lv_aloadN hx hb dX4_nextBy_26 (lv_at hl 1 rfl) ?_
          refine lv_ifnullN (tgt := 36) hx hb dX4_nextBy_28 (by decide) ?_
          refine x_sipush hx hb dX4_nextBy_36 (by decide +kernel) ?_
          exact xe_i hx hb hrt hlocks hP hS ((by unfold am_nextBy; simp only [Int.toNat_natCast]; simp only [sp_getc_s hS_q1]; rw [sp_if_t (by omega)]; exact ⟨rfl, hC, xO.rf⟩)) dX4_nextBy_39
        · have hC_q1 : XC cA ad en (45 + 4 * q1) (some r_q1) := by have q : XC cA ad en (45 + 4 * q1) (S.2.2.2 q1) := hC.rc h_q1; rw [hS_q1] at q; exact q
          have hk_q1 := hC_q1.k.1
          have hp_q1 := hC_q1.k.2
          have hm_q1 := hk_q1.2.1.2.2.1
          refine lv_aload_n hx hb dX4_nextBy_0 rfl (lv_at hl 0 rfl) ?_
          refine lv_iload_n hx hb dX4_nextBy_1 rfl (lv_at hl 1 rfl) ?_
          refine xv_q (i := 0) (As := [.int (xI (q1 : Int))]) (rest := []) ⟨hx, hb, hml, hown, hts⟩ hl.1 (c_X4_cutterOf_in l D cA n ad en (by omega) hC q1 (by omega)) k_X4_cutterOf u_ml_RX4_196 hK hN hP (by omega) hC.1 rfl rfl rfl rfl (Nat.le_of_ble_eq_true rfl) ⟨Nat.le_of_ble_eq_true rfl, Nat.le_of_ble_eq_true rfl⟩ ⟨Nat.le_of_ble_eq_true rfl, Nat.le_of_ble_eq_true rfl⟩ dX4_nextBy_2 ?_
          refine lv_astore (lv' := [(4, .ref (ad (45 + 4 * q1))), (0, .ref (ad 0)), (1, .int (xI (q1 : Int))), (2, .int (xI z2)), (3, .int (xI z3))]) hx hb dX4_nextBy_5 hl (by decide) rfl (fun ls hl => ?_)
          refine lv_aload_n hx hb dX4_nextBy_7 rfl (lv_at hl 1 rfl) ?_
          refine lv_iload_n hx hb dX4_nextBy_8 rfl (lv_at hl 3 rfl) ?_
          refine xv_q (i := 0) (As := [.int (xI z2)]) (rest := []) ⟨hx, hb, hml, hown, hts⟩ hl.1 (c_X4_textOf_out l D cA n ad en (by omega) hC z2 (by omega) (by omega)) k_X4_textOf u_ml_RX4_97 hK hN hP (by omega) hC.1 rfl rfl rfl rfl (Nat.le_of_ble_eq_true rfl) ⟨Nat.le_of_ble_eq_true rfl, Nat.le_of_ble_eq_true rfl⟩ ⟨Nat.le_of_ble_eq_true rfl, Nat.le_of_ble_eq_true rfl⟩ dX4_nextBy_9 ?_
          refine lv_astoreN (lv' := [(5, .null), (4, .ref (ad (45 + 4 * q1))), (0, .ref (ad 0)), (1, .int (xI (q1 : Int))), (2, .int (xI z2)), (3, .int (xI z3))]) hx hb dX4_nextBy_12 hl (by decide) rfl (fun ls hl => ?_)
          refine lv_aload_n hx hb dX4_nextBy_14 rfl (lv_at hl 2 rfl) ?_
          refine lv_iload_n hx hb dX4_nextBy_15 rfl (lv_at hl 5 rfl) ?_
          refine xv_q (i := 0) (As := [.int (xI z3)]) (rest := []) ⟨hx, hb, hml, hown, hts⟩ hl.1 (c_X4_textOf_out l D cA n ad en (by omega) hC z3 (by omega) (by omega)) k_X4_textOf u_ml_RX4_97 hK hN hP (by omega) hC.1 rfl rfl rfl rfl (Nat.le_of_ble_eq_true rfl) ⟨Nat.le_of_ble_eq_true rfl, Nat.le_of_ble_eq_true rfl⟩ ⟨Nat.le_of_ble_eq_true rfl, Nat.le_of_ble_eq_true rfl⟩ dX4_nextBy_16 ?_
          refine lv_astoreN (lv' := [(6, .null), (5, .null), (4, .ref (ad (45 + 4 * q1))), (0, .ref (ad 0)), (1, .int (xI (q1 : Int))), (2, .int (xI z2)), (3, .int (xI z3))]) hx hb dX4_nextBy_19 hl (by decide) rfl (fun ls hl => ?_)
          refine lv_aload hx hb dX4_nextBy_21 (lv_at hl 2 rfl) ?_
          refine lv_ifnull hx hb dX4_nextBy_23 ?_
          refine lv_aloadN hx hb dX4_nextBy_26 (lv_at hl 1 rfl) ?_
          refine lv_ifnullN (tgt := 36) hx hb dX4_nextBy_28 (by decide) ?_
          refine x_sipush hx hb dX4_nextBy_36 (by decide +kernel) ?_
          exact xe_i hx hb hrt hlocks hP hS ((by unfold am_nextBy; simp only [Int.toNat_natCast]; simp only [sp_getc_s hS_q1]; rw [sp_if_t (by omega)]; exact ⟨rfl, hC, xO.rf⟩)) dX4_nextBy_39
  · rcases Classical.em (0 ≤ z2 ∧ z2 < 8) with hx_z2 | hx_z2
    · obtain ⟨t2, rfl⟩ : ∃ q : Nat, z2 = (q : Int) := ⟨z2.toNat, by omega⟩
      have h_t2 : t2 < 8 := by omega
      rcases hS_t2 : S.2.1 t2 with _ | r_t2
      · rcases Classical.em (0 ≤ z3 ∧ z3 < 8) with hx_z3 | hx_z3
        · obtain ⟨t3, rfl⟩ : ∃ q : Nat, z3 = (q : Int) := ⟨z3.toNat, by omega⟩
          have h_t3 : t3 < 8 := by omega
          have hT_t2 : XT cA ad en (21 + 3 * t2) none := by have q : XT cA ad en (21 + 3 * t2) (S.2.1 t2) := hC.rt h_t2; rw [hS_t2] at q; exact q
          have hT_t3 : XT cA ad en (21 + 3 * t3) (S.2.1 t3) := hC.rt h_t3
          obtain ⟨zm_t3, tm_t3, tf_t3, hO_t3, hr_t3⟩ := hT_t3.any
          refine lv_aload_n hx hb dX4_nextBy_0 rfl (lv_at hl 0 rfl) ?_
          refine lv_iload_n hx hb dX4_nextBy_1 rfl (lv_at hl 1 rfl) ?_
          refine xv_q (i := 0) (As := [.int (xI z1)]) (rest := []) ⟨hx, hb, hml, hown, hts⟩ hl.1 (c_X4_cutterOf_out l D cA n ad en (by omega) hC z1 (by omega) (by omega)) k_X4_cutterOf u_ml_RX4_196 hK hN hP (by omega) hC.1 rfl rfl rfl rfl (Nat.le_of_ble_eq_true rfl) ⟨Nat.le_of_ble_eq_true rfl, Nat.le_of_ble_eq_true rfl⟩ ⟨Nat.le_of_ble_eq_true rfl, Nat.le_of_ble_eq_true rfl⟩ dX4_nextBy_2 ?_
          refine lv_astoreN (lv' := [(4, .null), (0, .ref (ad 0)), (1, .int (xI z1)), (2, .int (xI (t2 : Int))), (3, .int (xI (t3 : Int)))]) hx hb dX4_nextBy_5 hl (by decide) rfl (fun ls hl => ?_)
          refine lv_aload_n hx hb dX4_nextBy_7 rfl (lv_at hl 1 rfl) ?_
          refine lv_iload_n hx hb dX4_nextBy_8 rfl (lv_at hl 3 rfl) ?_
          refine xv_q (i := 0) (As := [.int (xI (t2 : Int))]) (rest := []) ⟨hx, hb, hml, hown, hts⟩ hl.1 (c_X4_textOf_in l D cA n ad en (by omega) hC t2 (by omega)) k_X4_textOf u_ml_RX4_97 hK hN hP (by omega) hC.1 rfl rfl rfl rfl (Nat.le_of_ble_eq_true rfl) ⟨Nat.le_of_ble_eq_true rfl, Nat.le_of_ble_eq_true rfl⟩ ⟨Nat.le_of_ble_eq_true rfl, Nat.le_of_ble_eq_true rfl⟩ dX4_nextBy_9 ?_
          refine lv_astore (lv' := [(5, .ref (ad (21 + 3 * t2))), (4, .null), (0, .ref (ad 0)), (1, .int (xI z1)), (2, .int (xI (t2 : Int))), (3, .int (xI (t3 : Int)))]) hx hb dX4_nextBy_12 hl (by decide) rfl (fun ls hl => ?_)
          refine lv_aload_n hx hb dX4_nextBy_14 rfl (lv_at hl 2 rfl) ?_
          refine lv_iload_n hx hb dX4_nextBy_15 rfl (lv_at hl 5 rfl) ?_
          refine xv_q (i := 0) (As := [.int (xI (t3 : Int))]) (rest := []) ⟨hx, hb, hml, hown, hts⟩ hl.1 (c_X4_textOf_in l D cA n ad en (by omega) hC t3 (by omega)) k_X4_textOf u_ml_RX4_97 hK hN hP (by omega) hC.1 rfl rfl rfl rfl (Nat.le_of_ble_eq_true rfl) ⟨Nat.le_of_ble_eq_true rfl, Nat.le_of_ble_eq_true rfl⟩ ⟨Nat.le_of_ble_eq_true rfl, Nat.le_of_ble_eq_true rfl⟩ dX4_nextBy_16 ?_
          refine lv_astore (lv' := [(6, .ref (ad (21 + 3 * t3))), (5, .ref (ad (21 + 3 * t2))), (4, .null), (0, .ref (ad 0)), (1, .int (xI z1)), (2, .int (xI (t2 : Int))), (3, .int (xI (t3 : Int)))]) hx hb dX4_nextBy_19 hl (by decide) rfl (fun ls hl => ?_)
          refine lv_aloadN hx hb dX4_nextBy_21 (lv_at hl 2 rfl) ?_
          refine lv_ifnullN (tgt := 36) hx hb dX4_nextBy_23 (by decide) ?_
          refine x_sipush hx hb dX4_nextBy_36 (by decide +kernel) ?_
          exact xe_i hx hb hrt hlocks hP hS ((by unfold am_nextBy; simp only [Int.toNat_natCast]; rw [sp_if_t (by omega)]; exact ⟨rfl, hC, xO.rf⟩)) dX4_nextBy_39
        · have hT_t2 : XT cA ad en (21 + 3 * t2) none := by have q : XT cA ad en (21 + 3 * t2) (S.2.1 t2) := hC.rt h_t2; rw [hS_t2] at q; exact q
          refine lv_aload_n hx hb dX4_nextBy_0 rfl (lv_at hl 0 rfl) ?_
          refine lv_iload_n hx hb dX4_nextBy_1 rfl (lv_at hl 1 rfl) ?_
          refine xv_q (i := 0) (As := [.int (xI z1)]) (rest := []) ⟨hx, hb, hml, hown, hts⟩ hl.1 (c_X4_cutterOf_out l D cA n ad en (by omega) hC z1 (by omega) (by omega)) k_X4_cutterOf u_ml_RX4_196 hK hN hP (by omega) hC.1 rfl rfl rfl rfl (Nat.le_of_ble_eq_true rfl) ⟨Nat.le_of_ble_eq_true rfl, Nat.le_of_ble_eq_true rfl⟩ ⟨Nat.le_of_ble_eq_true rfl, Nat.le_of_ble_eq_true rfl⟩ dX4_nextBy_2 ?_
          refine lv_astoreN (lv' := [(4, .null), (0, .ref (ad 0)), (1, .int (xI z1)), (2, .int (xI (t2 : Int))), (3, .int (xI z3))]) hx hb dX4_nextBy_5 hl (by decide) rfl (fun ls hl => ?_)
          refine lv_aload_n hx hb dX4_nextBy_7 rfl (lv_at hl 1 rfl) ?_
          refine lv_iload_n hx hb dX4_nextBy_8 rfl (lv_at hl 3 rfl) ?_
          refine xv_q (i := 0) (As := [.int (xI (t2 : Int))]) (rest := []) ⟨hx, hb, hml, hown, hts⟩ hl.1 (c_X4_textOf_in l D cA n ad en (by omega) hC t2 (by omega)) k_X4_textOf u_ml_RX4_97 hK hN hP (by omega) hC.1 rfl rfl rfl rfl (Nat.le_of_ble_eq_true rfl) ⟨Nat.le_of_ble_eq_true rfl, Nat.le_of_ble_eq_true rfl⟩ ⟨Nat.le_of_ble_eq_true rfl, Nat.le_of_ble_eq_true rfl⟩ dX4_nextBy_9 ?_
          refine lv_astore (lv' := [(5, .ref (ad (21 + 3 * t2))), (4, .null), (0, .ref (ad 0)), (1, .int (xI z1)), (2, .int (xI (t2 : Int))), (3, .int (xI z3))]) hx hb dX4_nextBy_12 hl (by decide) rfl (fun ls hl => ?_)
          refine lv_aload_n hx hb dX4_nextBy_14 rfl (lv_at hl 2 rfl) ?_
          refine lv_iload_n hx hb dX4_nextBy_15 rfl (lv_at hl 5 rfl) ?_
          refine xv_q (i := 0) (As := [.int (xI z3)]) (rest := []) ⟨hx, hb, hml, hown, hts⟩ hl.1 (c_X4_textOf_out l D cA n ad en (by omega) hC z3 (by omega) (by omega)) k_X4_textOf u_ml_RX4_97 hK hN hP (by omega) hC.1 rfl rfl rfl rfl (Nat.le_of_ble_eq_true rfl) ⟨Nat.le_of_ble_eq_true rfl, Nat.le_of_ble_eq_true rfl⟩ ⟨Nat.le_of_ble_eq_true rfl, Nat.le_of_ble_eq_true rfl⟩ dX4_nextBy_16 ?_
          refine lv_astoreN (lv' := [(6, .null), (5, .ref (ad (21 + 3 * t2))), (4, .null), (0, .ref (ad 0)), (1, .int (xI z1)), (2, .int (xI (t2 : Int))), (3, .int (xI z3))]) hx hb dX4_nextBy_19 hl (by decide) rfl (fun ls hl => ?_)
          refine lv_aloadN hx hb dX4_nextBy_21 (lv_at hl 2 rfl) ?_
          refine lv_ifnullN (tgt := 36) hx hb dX4_nextBy_23 (by decide) ?_
          refine x_sipush hx hb dX4_nextBy_36 (by decide +kernel) ?_
          exact xe_i hx hb hrt hlocks hP hS ((by unfold am_nextBy; simp only [Int.toNat_natCast]; rw [sp_if_t (by omega)]; exact ⟨rfl, hC, xO.rf⟩)) dX4_nextBy_39
      · rcases Classical.em (0 ≤ z3 ∧ z3 < 8) with hx_z3 | hx_z3
        · obtain ⟨t3, rfl⟩ : ∃ q : Nat, z3 = (q : Int) := ⟨z3.toNat, by omega⟩
          have h_t3 : t3 < 8 := by omega
          have hT_t2 : XT cA ad en (21 + 3 * t2) (some r_t2) := by have q : XT cA ad en (21 + 3 * t2) (S.2.1 t2) := hC.rt h_t2; rw [hS_t2] at q; exact q
          have hr_t2 := hT_t2.2
          have hm_t2 := hr_t2.2.2.1
          have hT_t3 : XT cA ad en (21 + 3 * t3) (S.2.1 t3) := hC.rt h_t3
          obtain ⟨zm_t3, tm_t3, tf_t3, hO_t3, hr_t3⟩ := hT_t3.any
          refine lv_aload_n hx hb dX4_nextBy_0 rfl (lv_at hl 0 rfl) ?_
          refine lv_iload_n hx hb dX4_nextBy_1 rfl (lv_at hl 1 rfl) ?_
          refine xv_q (i := 0) (As := [.int (xI z1)]) (rest := []) ⟨hx, hb, hml, hown, hts⟩ hl.1 (c_X4_cutterOf_out l D cA n ad en (by omega) hC z1 (by omega) (by omega)) k_X4_cutterOf u_ml_RX4_196 hK hN hP (by omega) hC.1 rfl rfl rfl rfl (Nat.le_of_ble_eq_true rfl) ⟨Nat.le_of_ble_eq_true rfl, Nat.le_of_ble_eq_true rfl⟩ ⟨Nat.le_of_ble_eq_true rfl, Nat.le_of_ble_eq_true rfl⟩ dX4_nextBy_2 ?_
          refine lv_astoreN (lv' := [(4, .null), (0, .ref (ad 0)), (1, .int (xI z1)), (2, .int (xI (t2 : Int))), (3, .int (xI (t3 : Int)))]) hx hb dX4_nextBy_5 hl (by decide) rfl (fun ls hl => ?_)
          refine lv_aload_n hx hb dX4_nextBy_7 rfl (lv_at hl 1 rfl) ?_
          refine lv_iload_n hx hb dX4_nextBy_8 rfl (lv_at hl 3 rfl) ?_
          refine xv_q (i := 0) (As := [.int (xI (t2 : Int))]) (rest := []) ⟨hx, hb, hml, hown, hts⟩ hl.1 (c_X4_textOf_in l D cA n ad en (by omega) hC t2 (by omega)) k_X4_textOf u_ml_RX4_97 hK hN hP (by omega) hC.1 rfl rfl rfl rfl (Nat.le_of_ble_eq_true rfl) ⟨Nat.le_of_ble_eq_true rfl, Nat.le_of_ble_eq_true rfl⟩ ⟨Nat.le_of_ble_eq_true rfl, Nat.le_of_ble_eq_true rfl⟩ dX4_nextBy_9 ?_
          refine lv_astore (lv' := [(5, .ref (ad (21 + 3 * t2))), (4, .null), (0, .ref (ad 0)), (1, .int (xI z1)), (2, .int (xI (t2 : Int))), (3, .int (xI (t3 : Int)))]) hx hb dX4_nextBy_12 hl (by decide) rfl (fun ls hl => ?_)
          refine lv_aload_n hx hb dX4_nextBy_14 rfl (lv_at hl 2 rfl) ?_
          refine lv_iload_n hx hb dX4_nextBy_15 rfl (lv_at hl 5 rfl) ?_
          refine xv_q (i := 0) (As := [.int (xI (t3 : Int))]) (rest := []) ⟨hx, hb, hml, hown, hts⟩ hl.1 (c_X4_textOf_in l D cA n ad en (by omega) hC t3 (by omega)) k_X4_textOf u_ml_RX4_97 hK hN hP (by omega) hC.1 rfl rfl rfl rfl (Nat.le_of_ble_eq_true rfl) ⟨Nat.le_of_ble_eq_true rfl, Nat.le_of_ble_eq_true rfl⟩ ⟨Nat.le_of_ble_eq_true rfl, Nat.le_of_ble_eq_true rfl⟩ dX4_nextBy_16 ?_
          refine lv_astore (lv' := [(6, .ref (ad (21 + 3 * t3))), (5, .ref (ad (21 + 3 * t2))), (4, .null), (0, .ref (ad 0)), (1, .int (xI z1)), (2, .int (xI (t2 : Int))), (3, .int (xI (t3 : Int)))]) hx hb dX4_nextBy_19 hl (by decide) rfl (fun ls hl => ?_)
          refine lv_aloadN hx hb dX4_nextBy_21 (lv_at hl 2 rfl) ?_
          refine lv_ifnullN (tgt := 36) hx hb dX4_nextBy_23 (by decide) ?_
          refine x_sipush hx hb dX4_nextBy_36 (by decide +kernel) ?_
          exact xe_i hx hb hrt hlocks hP hS ((by unfold am_nextBy; simp only [Int.toNat_natCast]; simp only [sp_get_s hS_t2]; rw [sp_if_t (by omega)]; exact ⟨rfl, hC, xO.rf⟩)) dX4_nextBy_39
        · have hT_t2 : XT cA ad en (21 + 3 * t2) (some r_t2) := by have q : XT cA ad en (21 + 3 * t2) (S.2.1 t2) := hC.rt h_t2; rw [hS_t2] at q; exact q
          have hr_t2 := hT_t2.2
          have hm_t2 := hr_t2.2.2.1
          refine lv_aload_n hx hb dX4_nextBy_0 rfl (lv_at hl 0 rfl) ?_
          refine lv_iload_n hx hb dX4_nextBy_1 rfl (lv_at hl 1 rfl) ?_
          refine xv_q (i := 0) (As := [.int (xI z1)]) (rest := []) ⟨hx, hb, hml, hown, hts⟩ hl.1 (c_X4_cutterOf_out l D cA n ad en (by omega) hC z1 (by omega) (by omega)) k_X4_cutterOf u_ml_RX4_196 hK hN hP (by omega) hC.1 rfl rfl rfl rfl (Nat.le_of_ble_eq_true rfl) ⟨Nat.le_of_ble_eq_true rfl, Nat.le_of_ble_eq_true rfl⟩ ⟨Nat.le_of_ble_eq_true rfl, Nat.le_of_ble_eq_true rfl⟩ dX4_nextBy_2 ?_
          refine lv_astoreN (lv' := [(4, .null), (0, .ref (ad 0)), (1, .int (xI z1)), (2, .int (xI (t2 : Int))), (3, .int (xI z3))]) hx hb dX4_nextBy_5 hl (by decide) rfl (fun ls hl => ?_)
          refine lv_aload_n hx hb dX4_nextBy_7 rfl (lv_at hl 1 rfl) ?_
          refine lv_iload_n hx hb dX4_nextBy_8 rfl (lv_at hl 3 rfl) ?_
          refine xv_q (i := 0) (As := [.int (xI (t2 : Int))]) (rest := []) ⟨hx, hb, hml, hown, hts⟩ hl.1 (c_X4_textOf_in l D cA n ad en (by omega) hC t2 (by omega)) k_X4_textOf u_ml_RX4_97 hK hN hP (by omega) hC.1 rfl rfl rfl rfl (Nat.le_of_ble_eq_true rfl) ⟨Nat.le_of_ble_eq_true rfl, Nat.le_of_ble_eq_true rfl⟩ ⟨Nat.le_of_ble_eq_true rfl, Nat.le_of_ble_eq_true rfl⟩ dX4_nextBy_9 ?_
          refine lv_astore (lv' := [(5, .ref (ad (21 + 3 * t2))), (4, .null), (0, .ref (ad 0)), (1, .int (xI z1)), (2, .int (xI (t2 : Int))), (3, .int (xI z3))]) hx hb dX4_nextBy_12 hl (by decide) rfl (fun ls hl => ?_)
          refine lv_aload_n hx hb dX4_nextBy_14 rfl (lv_at hl 2 rfl) ?_
          refine lv_iload_n hx hb dX4_nextBy_15 rfl (lv_at hl 5 rfl) ?_
          refine xv_q (i := 0) (As := [.int (xI z3)]) (rest := []) ⟨hx, hb, hml, hown, hts⟩ hl.1 (c_X4_textOf_out l D cA n ad en (by omega) hC z3 (by omega) (by omega)) k_X4_textOf u_ml_RX4_97 hK hN hP (by omega) hC.1 rfl rfl rfl rfl (Nat.le_of_ble_eq_true rfl) ⟨Nat.le_of_ble_eq_true rfl, Nat.le_of_ble_eq_true rfl⟩ ⟨Nat.le_of_ble_eq_true rfl, Nat.le_of_ble_eq_true rfl⟩ dX4_nextBy_16 ?_
          refine lv_astoreN (lv' := [(6, .null), (5, .ref (ad (21 + 3 * t2))), (4, .null), (0, .ref (ad 0)), (1, .int (xI z1)), (2, .int (xI (t2 : Int))), (3, .int (xI z3))]) hx hb dX4_nextBy_19 hl (by decide) rfl (fun ls hl => ?_)
          refine lv_aloadN hx hb dX4_nextBy_21 (lv_at hl 2 rfl) ?_
          refine lv_ifnullN (tgt := 36) hx hb dX4_nextBy_23 (by decide) ?_
          refine x_sipush hx hb dX4_nextBy_36 (by decide +kernel) ?_
          exact xe_i hx hb hrt hlocks hP hS ((by unfold am_nextBy; simp only [Int.toNat_natCast]; simp only [sp_get_s hS_t2]; rw [sp_if_t (by omega)]; exact ⟨rfl, hC, xO.rf⟩)) dX4_nextBy_39
    · rcases Classical.em (0 ≤ z3 ∧ z3 < 8) with hx_z3 | hx_z3
      · obtain ⟨t3, rfl⟩ : ∃ q : Nat, z3 = (q : Int) := ⟨z3.toNat, by omega⟩
        have h_t3 : t3 < 8 := by omega
        have hT_t3 : XT cA ad en (21 + 3 * t3) (S.2.1 t3) := hC.rt h_t3
        obtain ⟨zm_t3, tm_t3, tf_t3, hO_t3, hr_t3⟩ := hT_t3.any
        refine lv_aload_n hx hb dX4_nextBy_0 rfl (lv_at hl 0 rfl) ?_
        refine lv_iload_n hx hb dX4_nextBy_1 rfl (lv_at hl 1 rfl) ?_
        refine xv_q (i := 0) (As := [.int (xI z1)]) (rest := []) ⟨hx, hb, hml, hown, hts⟩ hl.1 (c_X4_cutterOf_out l D cA n ad en (by omega) hC z1 (by omega) (by omega)) k_X4_cutterOf u_ml_RX4_196 hK hN hP (by omega) hC.1 rfl rfl rfl rfl (Nat.le_of_ble_eq_true rfl) ⟨Nat.le_of_ble_eq_true rfl, Nat.le_of_ble_eq_true rfl⟩ ⟨Nat.le_of_ble_eq_true rfl, Nat.le_of_ble_eq_true rfl⟩ dX4_nextBy_2 ?_
        refine lv_astoreN (lv' := [(4, .null), (0, .ref (ad 0)), (1, .int (xI z1)), (2, .int (xI z2)), (3, .int (xI (t3 : Int)))]) hx hb dX4_nextBy_5 hl (by decide) rfl (fun ls hl => ?_)
        refine lv_aload_n hx hb dX4_nextBy_7 rfl (lv_at hl 1 rfl) ?_
        refine lv_iload_n hx hb dX4_nextBy_8 rfl (lv_at hl 3 rfl) ?_
        refine xv_q (i := 0) (As := [.int (xI z2)]) (rest := []) ⟨hx, hb, hml, hown, hts⟩ hl.1 (c_X4_textOf_out l D cA n ad en (by omega) hC z2 (by omega) (by omega)) k_X4_textOf u_ml_RX4_97 hK hN hP (by omega) hC.1 rfl rfl rfl rfl (Nat.le_of_ble_eq_true rfl) ⟨Nat.le_of_ble_eq_true rfl, Nat.le_of_ble_eq_true rfl⟩ ⟨Nat.le_of_ble_eq_true rfl, Nat.le_of_ble_eq_true rfl⟩ dX4_nextBy_9 ?_
        refine lv_astoreN (lv' := [(5, .null), (4, .null), (0, .ref (ad 0)), (1, .int (xI z1)), (2, .int (xI z2)), (3, .int (xI (t3 : Int)))]) hx hb dX4_nextBy_12 hl (by decide) rfl (fun ls hl => ?_)
        refine lv_aload_n hx hb dX4_nextBy_14 rfl (lv_at hl 2 rfl) ?_
        refine lv_iload_n hx hb dX4_nextBy_15 rfl (lv_at hl 5 rfl) ?_
        refine xv_q (i := 0) (As := [.int (xI (t3 : Int))]) (rest := []) ⟨hx, hb, hml, hown, hts⟩ hl.1 (c_X4_textOf_in l D cA n ad en (by omega) hC t3 (by omega)) k_X4_textOf u_ml_RX4_97 hK hN hP (by omega) hC.1 rfl rfl rfl rfl (Nat.le_of_ble_eq_true rfl) ⟨Nat.le_of_ble_eq_true rfl, Nat.le_of_ble_eq_true rfl⟩ ⟨Nat.le_of_ble_eq_true rfl, Nat.le_of_ble_eq_true rfl⟩ dX4_nextBy_16 ?_
        refine lv_astore (lv' := [(6, .ref (ad (21 + 3 * t3))), (5, .null), (4, .null), (0, .ref (ad 0)), (1, .int (xI z1)), (2, .int (xI z2)), (3, .int (xI (t3 : Int)))]) hx hb dX4_nextBy_19 hl (by decide) rfl (fun ls hl => ?_)
        refine lv_aloadN hx hb dX4_nextBy_21 (lv_at hl 2 rfl) ?_
        refine lv_ifnullN (tgt := 36) hx hb dX4_nextBy_23 (by decide) ?_
        refine x_sipush hx hb dX4_nextBy_36 (by decide +kernel) ?_
        exact xe_i hx hb hrt hlocks hP hS ((by unfold am_nextBy; simp only [Int.toNat_natCast]; rw [sp_if_t (by omega)]; exact ⟨rfl, hC, xO.rf⟩)) dX4_nextBy_39
      · refine lv_aload_n hx hb dX4_nextBy_0 rfl (lv_at hl 0 rfl) ?_
        refine lv_iload_n hx hb dX4_nextBy_1 rfl (lv_at hl 1 rfl) ?_
        refine xv_q (i := 0) (As := [.int (xI z1)]) (rest := []) ⟨hx, hb, hml, hown, hts⟩ hl.1 (c_X4_cutterOf_out l D cA n ad en (by omega) hC z1 (by omega) (by omega)) k_X4_cutterOf u_ml_RX4_196 hK hN hP (by omega) hC.1 rfl rfl rfl rfl (Nat.le_of_ble_eq_true rfl) ⟨Nat.le_of_ble_eq_true rfl, Nat.le_of_ble_eq_true rfl⟩ ⟨Nat.le_of_ble_eq_true rfl, Nat.le_of_ble_eq_true rfl⟩ dX4_nextBy_2 ?_
        refine lv_astoreN (lv' := [(4, .null), (0, .ref (ad 0)), (1, .int (xI z1)), (2, .int (xI z2)), (3, .int (xI z3))]) hx hb dX4_nextBy_5 hl (by decide) rfl (fun ls hl => ?_)
        refine lv_aload_n hx hb dX4_nextBy_7 rfl (lv_at hl 1 rfl) ?_
        refine lv_iload_n hx hb dX4_nextBy_8 rfl (lv_at hl 3 rfl) ?_
        refine xv_q (i := 0) (As := [.int (xI z2)]) (rest := []) ⟨hx, hb, hml, hown, hts⟩ hl.1 (c_X4_textOf_out l D cA n ad en (by omega) hC z2 (by omega) (by omega)) k_X4_textOf u_ml_RX4_97 hK hN hP (by omega) hC.1 rfl rfl rfl rfl (Nat.le_of_ble_eq_true rfl) ⟨Nat.le_of_ble_eq_true rfl, Nat.le_of_ble_eq_true rfl⟩ ⟨Nat.le_of_ble_eq_true rfl, Nat.le_of_ble_eq_true rfl⟩ dX4_nextBy_9 ?_
        refine lv_astoreN (lv' := [(5, .null), (4, .null), (0, .ref (ad 0)), (1, .int (xI z1)), (2, .int (xI z2)), (3, .int (xI z3))]) hx hb dX4_nextBy_12 hl (by decide) rfl (fun ls hl => ?_)
        refine lv_aload_n hx hb dX4_nextBy_14 rfl (lv_at hl 2 rfl) ?_
        refine lv_iload_n hx hb dX4_nextBy_15 rfl (lv_at hl 5 rfl) ?_
        refine xv_q (i := 0) (As := [.int (xI z3)]) (rest := []) ⟨hx, hb, hml, hown, hts⟩ hl.1 (c_X4_textOf_out l D cA n ad en (by omega) hC z3 (by omega) (by omega)) k_X4_textOf u_ml_RX4_97 hK hN hP (by omega) hC.1 rfl rfl rfl rfl (Nat.le_of_ble_eq_true rfl) ⟨Nat.le_of_ble_eq_true rfl, Nat.le_of_ble_eq_true rfl⟩ ⟨Nat.le_of_ble_eq_true rfl, Nat.le_of_ble_eq_true rfl⟩ dX4_nextBy_16 ?_
        refine lv_astoreN (lv' := [(6, .null), (5, .null), (4, .null), (0, .ref (ad 0)), (1, .int (xI z1)), (2, .int (xI z2)), (3, .int (xI z3))]) hx hb dX4_nextBy_19 hl (by decide) rfl (fun ls hl => ?_)
        refine lv_aloadN hx hb dX4_nextBy_21 (lv_at hl 2 rfl) ?_
        refine lv_ifnullN (tgt := 36) hx hb dX4_nextBy_23 (by decide) ?_
        refine x_sipush hx hb dX4_nextBy_36 (by decide +kernel) ?_
        exact xe_i hx hb hrt hlocks hP hS ((by unfold am_nextBy; rw [sp_if_t (by omega)]; exact ⟨rfl, hC, xO.rf⟩)) dX4_nextBy_39

set_option maxRecDepth 20000 in
theorem c_X4_digest (l : Launch) (D : va_G) (cA : Nat → ClassId) (n : Nat) (ad : Nat → Nat) (en : Nat → va_E) (hn : 53 ≤ n) {S : xSt} (hC : CW cA ad en S) : Met l yX4_digest (Cond.code yX4_digest cX4_digest 5 (some .long) :: xU) (xrm 5 108) (va_Pc [.ref (ad 0)] (xB D cA n ad en)) (vp_Sl (fun z => z = am_digest S)) 0 0 (fun _ => False) := by
  refine xmet (by decide) (Nat.le_of_ble_eq_true rfl) (fun p e s mm args below meth c ls hx hb hrt hml hown hts hlocks hname hB hl => ?_)
  obtain ⟨hP, hK, hN⟩ := hB
  have hl : lv_has ls 5 [(0, .ref (ad 0))] := hl
  obtain ⟨gB, hB1, hB2⟩ := hC.2.1
  obtain ⟨gT, hT1, hT2⟩ := hC.2.2.1
  obtain ⟨gC, hC1, hC2⟩ := hC.2.2.2.1
  have hXP := hC.rp
  have hp0 := hXP.to0
  obtain ⟨wn, hw, hwb⟩ := hXP.2.1
  have hwm := hw.2.2.1
  have hPn := hXP.2.2.2.2.1
  have hb1 : ∀ k : Nat, k < S.2.2.1.1 → S.2.2.1.2.1 k ≤ 200 := fun k hk => by have h1 := hwb k hk; have h2 := hXP.2.2.2.2.2.1 k hk; omega
  have hb2 : ∀ k : Nat, k < S.2.2.1.1 → S.2.2.1.2.2.1 k ≤ 200 := fun k hk => by have h1 := hwb k hk; omega
  refine x_ldc2 hx hb hown (hts _ u_ko_RX4_220) (k := 17) (by decide +kernel) dX4_digest_0 ?_
  refine lv_lstore_n (lv' := [(1, .long (xL 17)), (0, .ref (ad 0))]) hx hb dX4_digest_3 rfl hl (by decide) rfl (fun ls hl => ?_)
  refine x_iconst hx hb dX4_digest_4 ?_
  refine lv_istore_n (lv' := [(3, .int (xI 0)), (1, .long (xL 17)), (0, .ref (ad 0))]) hx hb dX4_digest_5 rfl hl (by decide) rfl (fun ls hl => ?_)
  have L6 : ∀ (nn : Nat) (b : Nat) (al : Int64), (b ≤ 4) → (al = sp_db S b) → (4 - b) < nn → ∀ ls : Array Slot, lv_has ls 5 [(0, .ref (ad 0)), (1, .long al), (3, .int (xI (b : Int)))] → W p l e (xrm 5 108) s mm args below meth c s.heap [] 0 0 (MQ below (vp_Sl (fun z => z = am_digest S)) args s 0 0 (fun _ => False)) (F0 mm 6 ls []) := by
    intro nn
    induction nn with
    | zero =>
      intro b al  hq9 hF hmm  ls hl
      exact absurd hmm (Nat.not_lt_zero _)
    | succ nn ih =>
      intro b al  hq9 hF hmm  ls hl
      refine lv_iload_n hx hb dX4_digest_6 rfl (lv_at hl 2 rfl) ?_
      refine lv_aload_n hx hb dX4_digest_7 rfl (lv_at hl 0 rfl) ?_
      refine x_get (T := TX4) (N := 6) hx hb hts uX4 hown hK hP (i := 0) (by omega) hC.1 rfl 0 (by decide) u_fl_RX4_11 rfl dX4_digest_8 ?_
      refine x_alen hx hb hK hP (i := 1) (by omega) 2 hB1 rfl dX4_digest_11 ?_
      refine x_icmp_ge (tgt := 42) hx hb dX4_digest_12 (by decide) (by omega) (fun c_12 => ?_) (fun c_12 => ?_)
      · refine x_iconst hx hb dX4_digest_42 ?_
        refine lv_istore_n (lv' := [(3, .int (xI 0)), (0, .ref (ad 0)), (1, .long al)]) hx hb dX4_digest_43 rfl hl (by decide) rfl (fun ls hl => ?_)
        have L44 : ∀ (nn : Nat) (t : Nat) (al : Int64), (t ≤ 8) → (al = sp_dt S t) → (8 - t) < nn → ∀ ls : Array Slot, lv_has ls 5 [(0, .ref (ad 0)), (1, .long al), (3, .int (xI (t : Int)))] → W p l e (xrm 5 108) s mm args below meth c s.heap [] 0 0 (MQ below (vp_Sl (fun z => z = am_digest S)) args s 0 0 (fun _ => False)) (F0 mm 44 ls []) := by
          intro nn
          induction nn with
          | zero =>
            intro t al  hq9 hF hmm  ls hl
            exact absurd hmm (Nat.not_lt_zero _)
          | succ nn ih =>
            intro t al  hq9 hF hmm  ls hl
            refine lv_iload_n hx hb dX4_digest_44 rfl (lv_at hl 2 rfl) ?_
            refine lv_aload_n hx hb dX4_digest_45 rfl (lv_at hl 0 rfl) ?_
            refine x_get (T := TX4) (N := 6) hx hb hts uX4 hown hK hP (i := 0) (by omega) hC.1 rfl 1 (by decide) u_fl_RX4_17 rfl dX4_digest_46 ?_
            refine x_alen hx hb hK hP (i := 2) (by omega) 3 hT1 rfl dX4_digest_49 ?_
            refine x_icmp_ge (tgt := 102) hx hb dX4_digest_50 (by decide) (by omega) (fun c_50 => ?_) (fun c_50 => ?_)
            · refine lv_lload_n hx hb dX4_digest_102 rfl (lv_at hl 1 rfl) ?_
              refine lv_aload_n hx hb dX4_digest_103 rfl (lv_at hl 0 rfl) ?_
              refine x_get (T := TX4) (N := 6) hx hb hts uX4 hown hK hP (i := 0) (by omega) hC.1 rfl 3 (by decide) u_fl_RX4_30 rfl dX4_digest_104 ?_
              refine x_getn (T := TX1) (N := 4) hx hb hts uX1 hown hN hK hP (i := 4) (by omega) hp0.1 rfl 3 (by decide) (by simp only [xNest, List.mem_cons]; exact Or.inr (Or.inr (Or.inr (Or.inr (Or.inl rfl))))) rfl dX4_digest_107 ?_
              refine xt_l (As := [.long al, .int (xI (S.2.2.1.1 : Int))]) (rest := []) ⟨hx, hb, hml, hown, hts⟩ hl.1 (c_X4_mixed l al (S.2.2.1.1 : Int) (by omega)) k_X4_mixed u_ml_RX4_226 rfl rfl (Nat.le_of_ble_eq_true rfl) ⟨Nat.le_of_ble_eq_true rfl, Nat.le_of_ble_eq_true rfl⟩ ⟨Nat.le_of_ble_eq_true rfl, Nat.le_of_ble_eq_true rfl⟩ dX4_digest_110 ?_
              refine lv_lstore_n (lv' := [(1, .long (sp_mix al (S.2.2.1.1 : Int))), (0, .ref (ad 0)), (3, .int (xI (t : Int)))]) hx hb dX4_digest_113 rfl hl (by decide) rfl (fun ls hl => ?_)
              refine x_iconst hx hb dX4_digest_114 ?_
              refine lv_istore_n (lv' := [(3, .int (xI 0)), (1, .long (sp_mix al (S.2.2.1.1 : Int))), (0, .ref (ad 0))]) hx hb dX4_digest_115 rfl hl (by decide) rfl (fun ls hl => ?_)
              have L116 : ∀ (nn : Nat) (k9 : Nat) (al : Int64), (k9 ≤ S.2.2.1.1) → (al = sp_dp S k9) → (S.2.2.1.1 - k9) < nn → ∀ ls : Array Slot, lv_has ls 5 [(0, .ref (ad 0)), (1, .long al), (3, .int (xI (k9 : Int)))] → W p l e (xrm 5 108) s mm args below meth c s.heap [] 0 0 (MQ below (vp_Sl (fun z => z = am_digest S)) args s 0 0 (fun _ => False)) (F0 mm 116 ls []) := by
                intro nn
                induction nn with
                | zero =>
                  intro k9 al  hq9 hF hmm  ls hl
                  exact absurd hmm (Nat.not_lt_zero _)
                | succ nn ih =>
                  intro k9 al  hq9 hF hmm  ls hl
                  refine lv_iload_n hx hb dX4_digest_116 rfl (lv_at hl 2 rfl) ?_
                  refine lv_aload_n hx hb dX4_digest_117 rfl (lv_at hl 0 rfl) ?_
                  refine x_get (T := TX4) (N := 6) hx hb hts uX4 hown hK hP (i := 0) (by omega) hC.1 rfl 3 (by decide) u_fl_RX4_30 rfl dX4_digest_118 ?_
                  refine x_getn (T := TX1) (N := 4) hx hb hts uX1 hown hN hK hP (i := 4) (by omega) hp0.1 rfl 3 (by decide) (by simp only [xNest, List.mem_cons]; exact Or.inr (Or.inr (Or.inr (Or.inr (Or.inl rfl))))) rfl dX4_digest_121 ?_
                  refine x_icmp_ge (tgt := 161) hx hb dX4_digest_124 (by decide) (by omega) (fun c_124 => ?_) (fun c_124 => ?_)
                  · refine x_iconst hx hb dX4_digest_161 ?_
                    refine lv_istore_n (lv' := [(3, .int (xI 0)), (0, .ref (ad 0)), (1, .long al)]) hx hb dX4_digest_162 rfl hl (by decide) rfl (fun ls hl => ?_)
                    have L163 : ∀ (nn : Nat) (c9 : Nat) (al : Int64), (c9 ≤ 2) → (al = sp_dc S c9) → (2 - c9) < nn → ∀ ls : Array Slot, lv_has ls 5 [(0, .ref (ad 0)), (1, .long al), (3, .int (xI (c9 : Int)))] → W p l e (xrm 5 108) s mm args below meth c s.heap [] 0 0 (MQ below (vp_Sl (fun z => z = am_digest S)) args s 0 0 (fun _ => False)) (F0 mm 163 ls []) := by
                      intro nn
                      induction nn with
                      | zero =>
                        intro c9 al  hq9 hF hmm  ls hl
                        exact absurd hmm (Nat.not_lt_zero _)
                      | succ nn ih =>
                        intro c9 al  hq9 hF hmm  ls hl
                        refine lv_iload_n hx hb dX4_digest_163 rfl (lv_at hl 2 rfl) ?_
                        refine lv_aload_n hx hb dX4_digest_164 rfl (lv_at hl 0 rfl) ?_
                        refine x_get (T := TX4) (N := 6) hx hb hts uX4 hown hK hP (i := 0) (by omega) hC.1 rfl 2 (by decide) u_fl_RX4_23 rfl dX4_digest_165 ?_
                        refine x_alen hx hb hK hP (i := 3) (by omega) 4 hC1 rfl dX4_digest_168 ?_
                        refine x_icmp_ge (tgt := 208) hx hb dX4_digest_169 (by decide) (by omega) (fun c_169 => ?_) (fun c_169 => ?_)
                        · refine lv_lload_n hx hb dX4_digest_208 rfl (lv_at hl 1 rfl) ?_
                          exact xr_l hx hb hrt hlocks (by rw [hF, show c9 = 2 by omega]; rfl) dX4_digest_209
                        · rcases hSC : S.2.2.2 c9 with _ | rC
                          · have hCc : XC cA ad en (45 + 4 * c9) none := by have q : XC cA ad en (45 + 4 * c9) (S.2.2.2 c9) := hC.rc (by omega); rw [hSC] at q; exact q
                            obtain ⟨kG, kp, hkc, -⟩ := hCc
                            refine lv_lload_n hx hb dX4_digest_172 rfl (lv_at hl 1 rfl) ?_
                            refine lv_aload_n hx hb dX4_digest_173 rfl (lv_at hl 0 rfl) ?_
                            refine x_get (T := TX4) (N := 6) hx hb hts uX4 hown hK hP (i := 0) (by omega) hC.1 rfl 2 (by decide) u_fl_RX4_23 rfl dX4_digest_174 ?_
                            refine lv_iload_n hx hb dX4_digest_177 rfl (lv_at hl 2 rfl) ?_
                            refine x_qld hx hb hK hP (i := 3) (by omega) 4 hC1 rfl (a := ad (45 + 4 * c9)) (by omega) (by rw [show Int.toNat (c9 : Int) = c9 by omega]; exact hC2 c9 (by omega)) dX4_digest_178 ?_
                            refine x_getn (T := TX0) (N := 5) hx hb hts uX0 hown hN hK hP (i := 45 + 4 * c9) (by omega) hkc rfl 3 (by decide) (by simp only [xNest, List.mem_cons]; exact Or.inr (Or.inr (Or.inr (Or.inr (Or.inr (Or.inr (Or.inr (Or.inl rfl)))))))) rfl dX4_digest_179 ?_
                            refine x_if_eq (tgt := 189) hx hb dX4_digest_182 (by decide) (by omega) (fun c_182 => absurd c_182 (by omega)) (fun c_182 => ?_)
                            refine x_iconst hx hb dX4_digest_185 ?_
                            refine lv_goto (tgt := 198) hx hb dX4_digest_186 (by decide) ?_
                            refine xt_l (As := [.long al, .int (xI (-1))]) (rest := []) ⟨hx, hb, hml, hown, hts⟩ hl.1 (c_X4_mixed l al (-1) (by omega)) k_X4_mixed u_ml_RX4_226 rfl rfl (Nat.le_of_ble_eq_true rfl) ⟨Nat.le_of_ble_eq_true rfl, Nat.le_of_ble_eq_true rfl⟩ ⟨Nat.le_of_ble_eq_true rfl, Nat.le_of_ble_eq_true rfl⟩ dX4_digest_198 ?_
                            refine lv_lstore_n (lv' := [(1, .long (sp_mix al (-1))), (0, .ref (ad 0)), (3, .int (xI (c9 : Int)))]) hx hb dX4_digest_201 rfl hl (by decide) rfl (fun ls hl => ?_)
                            refine x_iinc (lv' := [(3, .int (xI ((c9 : Int) + 1))), (1, .long (sp_mix al (-1))), (0, .ref (ad 0))]) (k := 2) hx hb dX4_digest_202 hl rfl (by decide) rfl (fun ls hl => ?_)
                            refine lv_goto (tgt := 163) hx hb dX4_digest_205 (by decide) ?_
                            exact ih (c9 + 1) _ (by omega) (by rw [hF]; show _ = sp_mix (sp_dc S c9) (sp_dcr (S.2.2.2 c9)); rw [hSC]; rfl) (by omega)  ls (lv_sub hl [2, 1, 0] rfl)
                          · have hCc : XC cA ad en (45 + 4 * c9) (some rC) := by have q : XC cA ad en (45 + 4 * c9) (S.2.2.2 c9) := hC.rc (by omega); rw [hSC] at q; exact q
                            have hkc := hCc.k.1
                            have hpc := hCc.k.2
                            have hmc := hkc.2.1.2.2.1
                            refine lv_lload_n hx hb dX4_digest_172 rfl (lv_at hl 1 rfl) ?_
                            refine lv_aload_n hx hb dX4_digest_173 rfl (lv_at hl 0 rfl) ?_
                            refine x_get (T := TX4) (N := 6) hx hb hts uX4 hown hK hP (i := 0) (by omega) hC.1 rfl 2 (by decide) u_fl_RX4_23 rfl dX4_digest_174 ?_
                            refine lv_iload_n hx hb dX4_digest_177 rfl (lv_at hl 2 rfl) ?_
                            refine x_qld hx hb hK hP (i := 3) (by omega) 4 hC1 rfl (a := ad (45 + 4 * c9)) (by omega) (by rw [show Int.toNat (c9 : Int) = c9 by omega]; exact hC2 c9 (by omega)) dX4_digest_178 ?_
                            refine x_getn (T := TX0) (N := 5) hx hb hts uX0 hown hN hK hP (i := 45 + 4 * c9) (by omega) hkc.1 rfl 3 (by decide) (by simp only [xNest, List.mem_cons]; exact Or.inr (Or.inr (Or.inr (Or.inr (Or.inr (Or.inr (Or.inr (Or.inl rfl)))))))) rfl dX4_digest_179 ?_
                            refine x_if_eq (tgt := 189) hx hb dX4_digest_182 (by decide) (by omega) (fun c_182 => ?_) (fun c_182 => absurd c_182 (by omega))
                            refine lv_aload_n hx hb dX4_digest_189 rfl (lv_at hl 0 rfl) ?_
                            refine x_get (T := TX4) (N := 6) hx hb hts uX4 hown hK hP (i := 0) (by omega) hC.1 rfl 2 (by decide) u_fl_RX4_23 rfl dX4_digest_190 ?_
                            refine lv_iload_n hx hb dX4_digest_193 rfl (lv_at hl 2 rfl) ?_
                            refine x_qld hx hb hK hP (i := 3) (by omega) 4 hC1 rfl (a := ad (45 + 4 * c9)) (by omega) (by rw [show Int.toNat (c9 : Int) = c9 by omega]; exact hC2 c9 (by omega)) dX4_digest_194 ?_
                            have hlb := sp_left_b rC.2.2.1 rC.2.1 rC.1.2 (rC.1.1 : Int) (rC.2.2.2 : Int)
                            refine xv_i (i := 45 + 4 * c9) (As := []) (rest := [.long al]) ⟨hx, hb, hml, hown, hts⟩ hl.1 (c_X0_tokensLeft l D cA n ad en (by omega) hkc (by omega)) k_X0_tokensLeft u_ml_RX4_204 hK hN hP (by omega) hkc.1 rfl rfl rfl rfl (Nat.le_of_ble_eq_true rfl) ⟨Nat.le_of_ble_eq_true rfl, Nat.le_of_ble_eq_true rfl⟩ ⟨Nat.le_of_ble_eq_true rfl, Nat.le_of_ble_eq_true rfl⟩ dX4_digest_195 ?_
                            refine xt_l (As := [.long al, .int (xI (sp_left rC.2.2.1 rC.2.1 rC.1.2 (rC.1.1 : Int) (rC.2.2.2 : Int)))]) (rest := []) ⟨hx, hb, hml, hown, hts⟩ hl.1 (c_X4_mixed l al (sp_left rC.2.2.1 rC.2.1 rC.1.2 (rC.1.1 : Int) (rC.2.2.2 : Int)) (by omega)) k_X4_mixed u_ml_RX4_226 rfl rfl (Nat.le_of_ble_eq_true rfl) ⟨Nat.le_of_ble_eq_true rfl, Nat.le_of_ble_eq_true rfl⟩ ⟨Nat.le_of_ble_eq_true rfl, Nat.le_of_ble_eq_true rfl⟩ dX4_digest_198 ?_
                            refine lv_lstore_n (lv' := [(1, .long (sp_mix al (sp_left rC.2.2.1 rC.2.1 rC.1.2 (rC.1.1 : Int) (rC.2.2.2 : Int)))), (0, .ref (ad 0)), (3, .int (xI (c9 : Int)))]) hx hb dX4_digest_201 rfl hl (by decide) rfl (fun ls hl => ?_)
                            refine x_iinc (lv' := [(3, .int (xI ((c9 : Int) + 1))), (1, .long (sp_mix al (sp_left rC.2.2.1 rC.2.1 rC.1.2 (rC.1.1 : Int) (rC.2.2.2 : Int)))), (0, .ref (ad 0))]) (k := 2) hx hb dX4_digest_202 hl rfl (by decide) rfl (fun ls hl => ?_)
                            refine lv_goto (tgt := 163) hx hb dX4_digest_205 (by decide) ?_
                            exact ih (c9 + 1) _ (by omega) (by rw [hF]; show _ = sp_mix (sp_dc S c9) (sp_dcr (S.2.2.2 c9)); rw [hSC]; rfl) (by omega)  ls (lv_sub hl [2, 1, 0] rfl)
                    exact L163 _ 0 _ (by omega) (by rw [hF, show k9 = S.2.2.1.1 by omega]; rfl) (Nat.lt_succ_self _)  ls (lv_sub hl [1, 2, 0] rfl)
                  · have hb3 := hXP.2.2.2.2.2.1 k9 (by omega)
                    have hb4 := hwb k9 (by omega)
                    refine lv_lload_n hx hb dX4_digest_127 rfl (lv_at hl 1 rfl) ?_
                    refine lv_aload_n hx hb dX4_digest_128 rfl (lv_at hl 0 rfl) ?_
                    refine x_get (T := TX4) (N := 6) hx hb hts uX4 hown hK hP (i := 0) (by omega) hC.1 rfl 3 (by decide) u_fl_RX4_30 rfl dX4_digest_129 ?_
                    refine x_getn (T := TX1) (N := 4) hx hb hts uX1 hown hN hK hP (i := 4) (by omega) hp0.1 rfl 0 (by decide) (by simp only [xNest, List.mem_cons]; exact Or.inr (Or.inr (Or.inr (Or.inl rfl)))) rfl dX4_digest_132 ?_
                    refine lv_aload_n hx hb dX4_digest_135 rfl (lv_at hl 0 rfl) ?_
                    refine x_get (T := TX4) (N := 6) hx hb hts uX4 hown hK hP (i := 0) (by omega) hC.1 rfl 3 (by decide) u_fl_RX4_30 rfl dX4_digest_136 ?_
                    refine lv_iload_n hx hb dX4_digest_139 rfl (lv_at hl 2 rfl) ?_
                    refine xv_i (i := 4) (As := [.int (xI (k9 : Int))]) (rest := [.ref (ad 5), .long al]) ⟨hx, hb, hml, hown, hts⟩ hl.1 (c_X1_start l D cA n ad en (by omega) hp0 hb1 (k9 : Int) (by omega)) k_X1_start u_ml_RX4_190 hK hN hP (by omega) hp0.1 rfl rfl rfl rfl (Nat.le_of_ble_eq_true rfl) ⟨Nat.le_of_ble_eq_true rfl, Nat.le_of_ble_eq_true rfl⟩ ⟨Nat.le_of_ble_eq_true rfl, Nat.le_of_ble_eq_true rfl⟩ dX4_digest_140 ?_
                    refine x_to (((S.2.2.1.2.1 k9 : Nat) : Int)) (by rw [Int.toNat_natCast]) ?_
                    refine lv_aload_n hx hb dX4_digest_143 rfl (lv_at hl 0 rfl) ?_
                    refine x_get (T := TX4) (N := 6) hx hb hts uX4 hown hK hP (i := 0) (by omega) hC.1 rfl 3 (by decide) u_fl_RX4_30 rfl dX4_digest_144 ?_
                    refine lv_iload_n hx hb dX4_digest_147 rfl (lv_at hl 2 rfl) ?_
                    refine xv_i (i := 4) (As := [.int (xI (k9 : Int))]) (rest := [.int (xI ((S.2.2.1.2.1 k9 : Nat) : Int)), .ref (ad 5), .long al]) ⟨hx, hb, hml, hown, hts⟩ hl.1 (c_X1_end l D cA n ad en (by omega) hp0 hb2 (k9 : Int) (by omega)) k_X1_end u_ml_RX4_193 hK hN hP (by omega) hp0.1 rfl rfl rfl rfl (Nat.le_of_ble_eq_true rfl) ⟨Nat.le_of_ble_eq_true rfl, Nat.le_of_ble_eq_true rfl⟩ ⟨Nat.le_of_ble_eq_true rfl, Nat.le_of_ble_eq_true rfl⟩ dX4_digest_148 ?_
                    refine x_to (((S.2.2.1.2.2.1 k9 : Nat) : Int)) (by rw [Int.toNat_natCast]) ?_
                    refine xs_l (As := [.long al, .ref (ad 5), .int (xI ((S.2.2.1.2.1 k9 : Nat) : Int)), .int (xI ((S.2.2.1.2.2.1 k9 : Nat) : Int))]) (rest := []) ⟨hx, hb, hml, hown, hts⟩ hl.1 (c_X4_mixedRow l D cA n ad en (by omega) hw al ((S.2.2.1.2.1 k9 : Nat) : Int) ((S.2.2.1.2.2.1 k9 : Nat) : Int) (by omega)) k_X4_mixedRow u_ml_RX4_222 rfl rfl (Nat.le_of_ble_eq_true rfl) ⟨Nat.le_of_ble_eq_true rfl, Nat.le_of_ble_eq_true rfl⟩ ⟨Nat.le_of_ble_eq_true rfl, Nat.le_of_ble_eq_true rfl⟩ dX4_digest_151 hK hN hP ?_
                    refine lv_lstore_n (lv' := [(1, .long (sp_hs S.2.2.1.2.2.2 (sp_mix al (((S.2.2.1.2.2.1 k9 : Nat) : Int) - ((S.2.2.1.2.1 k9 : Nat) : Int))) (Int.toNat ((S.2.2.1.2.1 k9 : Nat) : Int)) (Int.toNat (((S.2.2.1.2.2.1 k9 : Nat) : Int) - ((S.2.2.1.2.1 k9 : Nat) : Int))))), (0, .ref (ad 0)), (3, .int (xI (k9 : Int)))]) hx hb dX4_digest_154 rfl hl (by decide) rfl (fun ls hl => ?_)
                    refine x_iinc (lv' := [(3, .int (xI ((k9 : Int) + 1))), (1, .long (sp_hs S.2.2.1.2.2.2 (sp_mix al (((S.2.2.1.2.2.1 k9 : Nat) : Int) - ((S.2.2.1.2.1 k9 : Nat) : Int))) (Int.toNat ((S.2.2.1.2.1 k9 : Nat) : Int)) (Int.toNat (((S.2.2.1.2.2.1 k9 : Nat) : Int) - ((S.2.2.1.2.1 k9 : Nat) : Int))))), (0, .ref (ad 0))]) (k := 2) hx hb dX4_digest_155 hl rfl (by decide) rfl (fun ls hl => ?_)
                    refine lv_goto (tgt := 116) hx hb dX4_digest_158 (by decide) ?_
                    exact ih (k9 + 1) _ (by omega) (by rw [hF, Int.toNat_natCast, show Int.toNat ((S.2.2.1.2.2.1 k9 : Int) - (S.2.2.1.2.1 k9 : Int)) = S.2.2.1.2.2.1 k9 - S.2.2.1.2.1 k9 by omega]; rfl) (by omega)  ls (lv_sub hl [2, 1, 0] rfl)
              exact L116 _ 0 _ (by omega) (by rw [hF, show t = 8 by omega]; rfl) (Nat.lt_succ_self _)  ls (lv_sub hl [2, 1, 0] rfl)
            · refine lv_aload_n hx hb dX4_digest_53 rfl (lv_at hl 0 rfl) ?_
              refine x_get (T := TX4) (N := 6) hx hb hts uX4 hown hK hP (i := 0) (by omega) hC.1 rfl 1 (by decide) u_fl_RX4_17 rfl dX4_digest_54 ?_
              refine lv_iload_n hx hb dX4_digest_57 rfl (lv_at hl 2 rfl) ?_
              refine x_qld hx hb hK hP (i := 2) (by omega) 3 hT1 rfl (a := ad (21 + 3 * t)) (by omega) (by rw [show Int.toNat (t : Int) = t by omega]; exact hT2 t (by omega)) dX4_digest_58 ?_
              refine lv_astore (lv' := [(4, .ref (ad (21 + 3 * t))), (0, .ref (ad 0)), (1, .long al), (3, .int (xI (t : Int)))]) hx hb dX4_digest_59 hl (by decide) rfl (fun ls hl => ?_)
              rcases hST : S.2.1 t with _ | rT
              · have hTt : XT cA ad en (21 + 3 * t) none := by have q : XT cA ad en (21 + 3 * t) (S.2.1 t) := hC.rt (by omega); rw [hST] at q; exact q
                refine lv_aload hx hb dX4_digest_61 (lv_at hl 0 rfl) ?_
                refine x_getn (T := TX3) (N := 2) hx hb hts uX3 hown hN hK hP (i := 21 + 3 * t) (by omega) hTt.1 rfl 1 (by decide) (by simp only [xNest, List.mem_cons]; exact Or.inr (Or.inr (Or.inr (Or.inr (Or.inr (Or.inr (Or.inl rfl))))))) rfl dX4_digest_63 ?_
                refine x_if_eq (tgt := 77) hx hb dX4_digest_66 (by decide) (by omega) (fun c_66 => absurd c_66 (by omega)) (fun c_66 => ?_)
                refine lv_lload_n hx hb dX4_digest_69 rfl (lv_at hl 2 rfl) ?_
                refine x_iconst hx hb dX4_digest_70 ?_
                refine xt_l (As := [.long al, .int (xI (-1))]) (rest := []) ⟨hx, hb, hml, hown, hts⟩ hl.1 (c_X4_mixed l al (-1) (by omega)) k_X4_mixed u_ml_RX4_226 rfl rfl (Nat.le_of_ble_eq_true rfl) ⟨Nat.le_of_ble_eq_true rfl, Nat.le_of_ble_eq_true rfl⟩ ⟨Nat.le_of_ble_eq_true rfl, Nat.le_of_ble_eq_true rfl⟩ dX4_digest_71 ?_
                refine lv_goto (tgt := 95) hx hb dX4_digest_74 (by decide) ?_
                refine lv_lstore_n (lv' := [(1, .long (sp_mix al (-1))), (4, .ref (ad (21 + 3 * t))), (0, .ref (ad 0)), (3, .int (xI (t : Int)))]) hx hb dX4_digest_95 rfl hl (by decide) rfl (fun ls hl => ?_)
                refine x_iinc (lv' := [(3, .int (xI ((t : Int) + 1))), (1, .long (sp_mix al (-1))), (4, .ref (ad (21 + 3 * t))), (0, .ref (ad 0))]) (k := 3) hx hb dX4_digest_96 hl rfl (by decide) rfl (fun ls hl => ?_)
                refine lv_goto (tgt := 44) hx hb dX4_digest_99 (by decide) ?_
                exact ih (t + 1) _ (by omega) (by rw [hF]; show _ = sp_dtr (S.2.1 t) (sp_dt S t); rw [hST]; rfl) (by omega)  ls (lv_sub hl [3, 1, 0] rfl)
              · have hTt : XT cA ad en (21 + 3 * t) (some rT) := by have q : XT cA ad en (21 + 3 * t) (S.2.1 t) := hC.rt (by omega); rw [hST] at q; exact q
                have hrT := hTt.2
                have hrm := hrT.2.2.1
                refine lv_aload hx hb dX4_digest_61 (lv_at hl 0 rfl) ?_
                refine x_getn (T := TX3) (N := 2) hx hb hts uX3 hown hN hK hP (i := 21 + 3 * t) (by omega) hTt.1 rfl 1 (by decide) (by simp only [xNest, List.mem_cons]; exact Or.inr (Or.inr (Or.inr (Or.inr (Or.inr (Or.inr (Or.inl rfl))))))) rfl dX4_digest_63 ?_
                refine x_if_eq (tgt := 77) hx hb dX4_digest_66 (by decide) (by omega) (fun c_66 => ?_) (fun c_66 => absurd c_66 (by omega))
                refine lv_lload_n hx hb dX4_digest_77 rfl (lv_at hl 2 rfl) ?_
                refine lv_aload hx hb dX4_digest_78 (lv_at hl 0 rfl) ?_
                refine x_getn (T := TX3) (N := 2) hx hb hts uX3 hown hN hK hP (i := 21 + 3 * t) (by omega) hTt.1 rfl 0 (by decide) (by simp only [xNest, List.mem_cons]; exact Or.inr (Or.inr (Or.inr (Or.inr (Or.inr (Or.inl rfl)))))) rfl dX4_digest_80 ?_
                refine x_iconst hx hb dX4_digest_83 ?_
                refine lv_aload hx hb dX4_digest_84 (lv_at hl 0 rfl) ?_
                refine x_getn (T := TX3) (N := 2) hx hb hts uX3 hown hN hK hP (i := 21 + 3 * t) (by omega) hTt.1 rfl 0 (by decide) (by simp only [xNest, List.mem_cons]; exact Or.inr (Or.inr (Or.inr (Or.inr (Or.inr (Or.inl rfl)))))) rfl dX4_digest_86 ?_
                refine x_getn (T := TX2) (N := 2) hx hb hts uX2 hown hN hK hP (i := 21 + 3 * t + 1) (by omega) hrT.1 rfl 1 (by decide) (by simp only [xNest, List.mem_cons]; exact Or.inr (Or.inl rfl)) rfl dX4_digest_89 ?_
                refine xs_l (As := [.long al, .ref (ad (21 + 3 * t + 1)), .int (xI 0), .int (xI (rT.1 : Int))]) (rest := []) ⟨hx, hb, hml, hown, hts⟩ hl.1 (c_X4_mixedRow l D cA n ad en (by omega) hrT al 0 (rT.1 : Int) (by omega)) k_X4_mixedRow u_ml_RX4_222 rfl rfl (Nat.le_of_ble_eq_true rfl) ⟨Nat.le_of_ble_eq_true rfl, Nat.le_of_ble_eq_true rfl⟩ ⟨Nat.le_of_ble_eq_true rfl, Nat.le_of_ble_eq_true rfl⟩ dX4_digest_92 hK hN hP ?_
                refine lv_lstore_n (lv' := [(1, .long (sp_hs rT.2 (sp_mix al ((rT.1 : Int) - 0)) (Int.toNat 0) (Int.toNat ((rT.1 : Int) - 0)))), (4, .ref (ad (21 + 3 * t))), (0, .ref (ad 0)), (3, .int (xI (t : Int)))]) hx hb dX4_digest_95 rfl hl (by decide) rfl (fun ls hl => ?_)
                refine x_iinc (lv' := [(3, .int (xI ((t : Int) + 1))), (1, .long (sp_hs rT.2 (sp_mix al ((rT.1 : Int) - 0)) (Int.toNat 0) (Int.toNat ((rT.1 : Int) - 0)))), (4, .ref (ad (21 + 3 * t))), (0, .ref (ad 0))]) (k := 3) hx hb dX4_digest_96 hl rfl (by decide) rfl (fun ls hl => ?_)
                refine lv_goto (tgt := 44) hx hb dX4_digest_99 (by decide) ?_
                exact ih (t + 1) _ (by omega) (by rw [hF, Int.sub_zero, Int.toNat_natCast]; show _ = sp_dtr (S.2.1 t) (sp_dt S t); rw [hST]; rfl) (by omega)  ls (lv_sub hl [3, 1, 0] rfl)
        exact L44 _ 0 _ (by omega) (by rw [hF, show b = 4 by omega]; rfl) (Nat.lt_succ_self _)  ls (lv_sub hl [1, 2, 0] rfl)
      · have hr := hC.rb (b := b) (by omega)
        have hrm := hr.2.2.1
        refine lv_lload_n hx hb dX4_digest_15 rfl (lv_at hl 1 rfl) ?_
        refine lv_aload_n hx hb dX4_digest_16 rfl (lv_at hl 0 rfl) ?_
        refine x_get (T := TX4) (N := 6) hx hb hts uX4 hown hK hP (i := 0) (by omega) hC.1 rfl 0 (by decide) u_fl_RX4_11 rfl dX4_digest_17 ?_
        refine lv_iload_n hx hb dX4_digest_20 rfl (lv_at hl 2 rfl) ?_
        refine x_qld hx hb hK hP (i := 1) (by omega) 2 hB1 rfl (a := ad (13 + 2 * b)) (by omega) (by rw [show Int.toNat (b : Int) = b by omega]; exact hB2 b (by omega)) dX4_digest_21 ?_
        refine x_iconst hx hb dX4_digest_22 ?_
        refine lv_aload_n hx hb dX4_digest_23 rfl (lv_at hl 0 rfl) ?_
        refine x_get (T := TX4) (N := 6) hx hb hts uX4 hown hK hP (i := 0) (by omega) hC.1 rfl 0 (by decide) u_fl_RX4_11 rfl dX4_digest_24 ?_
        refine lv_iload_n hx hb dX4_digest_27 rfl (lv_at hl 2 rfl) ?_
        refine x_qld hx hb hK hP (i := 1) (by omega) 2 hB1 rfl (a := ad (13 + 2 * b)) (by omega) (by rw [show Int.toNat (b : Int) = b by omega]; exact hB2 b (by omega)) dX4_digest_28 ?_
        refine x_getn (T := TX2) (N := 2) hx hb hts uX2 hown hN hK hP (i := 13 + 2 * b) (by omega) hr.1 rfl 1 (by decide) (by simp only [xNest, List.mem_cons]; exact Or.inr (Or.inl rfl)) rfl dX4_digest_29 ?_
        refine xs_l (As := [.long al, .ref (ad (13 + 2 * b)), .int (xI 0), .int (xI ((S.1 b).1 : Int))]) (rest := []) ⟨hx, hb, hml, hown, hts⟩ hl.1 (c_X4_mixedRow l D cA n ad en (by omega) hr al 0 ((S.1 b).1 : Int) (by omega)) k_X4_mixedRow u_ml_RX4_222 rfl rfl (Nat.le_of_ble_eq_true rfl) ⟨Nat.le_of_ble_eq_true rfl, Nat.le_of_ble_eq_true rfl⟩ ⟨Nat.le_of_ble_eq_true rfl, Nat.le_of_ble_eq_true rfl⟩ dX4_digest_32 hK hN hP ?_
        refine lv_lstore_n (lv' := [(1, .long (sp_hs ((S.1 b).2) (sp_mix al (((S.1 b).1 : Int) - 0)) (Int.toNat 0) (Int.toNat (((S.1 b).1 : Int) - 0)))), (0, .ref (ad 0)), (3, .int (xI (b : Int)))]) hx hb dX4_digest_35 rfl hl (by decide) rfl (fun ls hl => ?_)
        refine x_iinc (lv' := [(3, .int (xI ((b : Int) + 1))), (1, .long (sp_hs ((S.1 b).2) (sp_mix al (((S.1 b).1 : Int) - 0)) (Int.toNat 0) (Int.toNat (((S.1 b).1 : Int) - 0)))), (0, .ref (ad 0))]) (k := 2) hx hb dX4_digest_36 hl rfl (by decide) rfl (fun ls hl => ?_)
        refine lv_goto (tgt := 6) hx hb dX4_digest_39 (by decide) ?_
        exact ih (b + 1) _ (by omega) (by rw [hF, Int.sub_zero, Int.toNat_natCast]; rfl) (by omega)  ls (lv_sub hl [2, 1, 0] rfl)
  exact L6 _ 0 (xL 17) (by omega) rfl (Nat.lt_succ_self _)  ls (lv_sub hl [2, 1, 0] rfl)
