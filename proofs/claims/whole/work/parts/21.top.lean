/-! behind a change of a builder's row -/
theorem x_fin {cA : Nat → ClassId} {ad : Nat → Nat} {en u : Nat → va_E} {S : xSt} {b : Nat} {h : Nat → Int} {k : Nat} {z1 z2 z3 z4 : Int} {r : Int32} (hC : CW cA ad en S) (hb : b < 4) (hp : (¬ ((0 ≤ z1 ∧ z1 ≤ z2 ∧ z2 ≤ ((S.1 b).1 : Int)) ∧ 0 ≤ z3 ∧ z3 ≤ z4 ∧ z4 ≤ (k : Int)) ∧ r = xI (-1005) ∧ u = en) ∨ (((0 ≤ z1 ∧ z1 ≤ z2 ∧ z2 ≤ ((S.1 b).1 : Int)) ∧ 0 ≤ z3 ∧ z3 ≤ z4 ∧ z4 ≤ (k : Int)) ∧ 200 < ((S.1 b).1 : Int) - (z2 - z1) + (z4 - z3) ∧ r = xI (-1007) ∧ u = en) ∨ (((0 ≤ z1 ∧ z1 ≤ z2 ∧ z2 ≤ ((S.1 b).1 : Int)) ∧ 0 ≤ z3 ∧ z3 ≤ z4 ∧ z4 ≤ (k : Int)) ∧ ((S.1 b).1 : Int) - (z2 - z1) + (z4 - z3) ≤ 200 ∧ r = xI (((S.1 b).1 : Int) - (z2 - z1) + (z4 - z3)) ∧ XR cA ad u (13 + 2 * b) (Int.toNat (((S.1 b).1 : Int) - (z2 - z1) + (z4 - z3))) (sp_ed (S.1 b).2 (Int.toNat z1) (Int.toNat z2) h (Int.toNat z3) (Int.toNat (z4 - z3))) ∧ xO (13 + 2 * b) (13 + 2 * b + 2) en u)) (hP : (0 ≤ z1 ∧ z1 ≤ z2 ∧ z2 ≤ ((S.1 b).1 : Int)) ∧ 0 ≤ z3 ∧ z3 ≤ z4 ∧ z4 ≤ (k : Int)) {r0 : xRow} {a e : Nat} (ha : z1 = (a : Int)) (he : z2 = (e : Int)) (hl : (r0.1 : Int) = z4 - z3) (hf : ∀ t : Nat, t < r0.1 → h (z3.toNat + t) = r0.2 t) :
    r = xI (sp_edt S b a e r0).1 ∧ CW cA ad u (sp_edt S b a e r0).2 ∧ xO (13 + 2 * b) (15 + 2 * b) en u := by
  subst ha
  subst he
  unfold sp_edt
  rcases hp with hp | ⟨-, h1, rfl, rfl⟩ | ⟨-, h1, rfl, hx, ho⟩
  · exact absurd hP hp.1
  · rw [if_pos (by omega)]
    exact ⟨rfl, hC, xO.rf⟩
  · rw [if_neg (by omega)]
    have e1 : (((S.1 b).1 : Int) - ((e : Int) - (a : Int)) + (z4 - z3)) = (((S.1 b).1 - (e - a) + r0.1 : Nat) : Int) := by omega
    refine ⟨by rw [e1], hC.builder hb (ho.mo (by omega) (by omega)) (hx.to (by omega) (fun t ht => ?_)), ho.mo (by omega) (by omega)⟩
    simp only [sp_ed, Int.toNat_natCast]
    by_cases q1 : t < a
    · rw [if_pos q1, if_pos q1]
    · rw [if_neg q1, if_neg q1]
      by_cases q2 : t < a + r0.1
      · rw [if_pos (by omega), if_pos q2, hf _ (by omega), Nat.zero_add]
      · rw [if_neg (by omega), if_neg q2, show (z4 - z3).toNat = r0.1 by omega]
theorem x_finP {cA : Nat → ClassId} {ad : Nat → Nat} {en u : Nat → va_E} {S : xSt} {b : Nat} {h : Nat → Int} {k : Nat} {z1 z2 z3 z4 : Int} {r : Int32} (hp : (¬ ((0 ≤ z1 ∧ z1 ≤ z2 ∧ z2 ≤ ((S.1 b).1 : Int)) ∧ 0 ≤ z3 ∧ z3 ≤ z4 ∧ z4 ≤ (k : Int)) ∧ r = xI (-1005) ∧ u = en) ∨ (((0 ≤ z1 ∧ z1 ≤ z2 ∧ z2 ≤ ((S.1 b).1 : Int)) ∧ 0 ≤ z3 ∧ z3 ≤ z4 ∧ z4 ≤ (k : Int)) ∧ 200 < ((S.1 b).1 : Int) - (z2 - z1) + (z4 - z3) ∧ r = xI (-1007) ∧ u = en) ∨ (((0 ≤ z1 ∧ z1 ≤ z2 ∧ z2 ≤ ((S.1 b).1 : Int)) ∧ 0 ≤ z3 ∧ z3 ≤ z4 ∧ z4 ≤ (k : Int)) ∧ ((S.1 b).1 : Int) - (z2 - z1) + (z4 - z3) ≤ 200 ∧ r = xI (((S.1 b).1 : Int) - (z2 - z1) + (z4 - z3)) ∧ XR cA ad u (13 + 2 * b) (Int.toNat (((S.1 b).1 : Int) - (z2 - z1) + (z4 - z3))) (sp_ed (S.1 b).2 (Int.toNat z1) (Int.toNat z2) h (Int.toNat z3) (Int.toNat (z4 - z3))) ∧ xO (13 + 2 * b) (13 + 2 * b + 2) en u)) (hP : ¬ ((0 ≤ z1 ∧ z1 ≤ z2 ∧ z2 ≤ ((S.1 b).1 : Int)) ∧ 0 ≤ z3 ∧ z3 ≤ z4 ∧ z4 ≤ (k : Int))) : r = xI (-1005) ∧ u = en := by
  rcases hp with hp | ⟨h1, -⟩ | ⟨h1, -⟩
  · exact hp.2
  · exact absurd h1 hP
  · exact absurd h1 hP

set_option maxRecDepth 20000 in
theorem c_X4_sign (l : Launch) (D : va_G) (cA : Nat → ClassId) (n : Nat) (ad : Nat → Nat) (en : Nat → va_E) (sz : Nat) (hn : 53 ≤ n) {S : xSt} (hC : CW cA ad en S) (z1 : Int) (hz1 : -2147483648 ≤ z1 ∧ z1 ≤ 2147483647) (z2 : Int) (hz2 : -2147483648 ≤ z2 ∧ z2 ≤ 2147483647) : Met l yX4_sign (Cond.code yX4_sign cX4_sign 4 (some .int) :: xU) (xrm 3 75) (va_Pc [.ref (ad 0), .int (xI z1), .int (xI z2)] (xM D cA n ad en sz)) (va_Qi (fun r u => r = xI (am_sign S z1 z2).1 ∧ CW cA ad u (am_sign S z1 z2).2 ∧ xO 0 53 en u) (xE D n ad) (xA n ad sz)) 0 0 (xA n ad sz) := by
  refine xmet (by decide) (Nat.le_of_ble_eq_true rfl) (fun p e s mm args below meth c ls hx hb hrt hml hown hts hlocks hname hB hl => ?_)
  obtain ⟨⟨hP, hK, hN⟩, hsz, hDt⟩ := hB
  have hD : xD (xA n ad sz) n ad := xD_self hDt sz
  have hA : ∀ q : Nat, s.heap.size ≤ q → xA n ad sz q := fun q h => Or.inr (by rw [← hsz]; exact h)
  have hS : va_S (xA n ad sz) s.heap s.heap [] := va_S.rf
  have hown : s.vm.findClass RX4 = some mm.cls := hown
  have hl : lv_has ls 4 [(0, .ref (ad 0)), (1, .int (xI z1)), (2, .int (xI z2))] := hl
  rcases Classical.em (0 ≤ z1 ∧ z1 < 4) with hx_z1 | hx_z1
  · obtain ⟨b1, rfl⟩ : ∃ q : Nat, z1 = (q : Int) := ⟨z1.toNat, by omega⟩
    have h_b1 : b1 < 4 := by omega
    have hr_b1 : XR cA ad en (13 + 2 * b1) (S.1 b1).1 (S.1 b1).2 := hC.rb h_b1
    have hm_b1 := hr_b1.2.2.1
    refine lv_aload_n hx hb dX4_sign_0 rfl (lv_at hl 0 rfl) ?_
    refine lv_iload_n hx hb dX4_sign_1 rfl (lv_at hl 1 rfl) ?_
    refine xv_q (i := 0) (As := [.int (xI (b1 : Int))]) (rest := []) ⟨hx, hb, hml, hown, hts⟩ hl.1 (c_X4_builderOf_in l D cA n ad en (by omega) hC b1 (by omega)) k_X4_builderOf u_ml_RX4_52 hK hN hP (by omega) hC.1 rfl rfl rfl rfl (Nat.le_of_ble_eq_true rfl) ⟨Nat.le_of_ble_eq_true rfl, Nat.le_of_ble_eq_true rfl⟩ ⟨Nat.le_of_ble_eq_true rfl, Nat.le_of_ble_eq_true rfl⟩ dX4_sign_2 ?_
    refine lv_astore_n (lv' := [(3, .ref (ad (13 + 2 * b1))), (0, .ref (ad 0)), (1, .int (xI (b1 : Int))), (2, .int (xI z2))]) hx hb dX4_sign_5 rfl hl (by decide) rfl (fun ls hl => ?_)
    refine lv_aload_n hx hb dX4_sign_6 rfl (lv_at hl 0 rfl) ?_
    refine lv_ifnonnull (tgt := 14) hx hb dX4_sign_7 (by decide) ?_
    refine lv_iload_n hx hb dX4_sign_14 rfl (lv_at hl 3 rfl) ?_
    refine xt_i (As := [.int (xI z2)]) (rest := []) ⟨hx, hb, hml, hown, hts⟩ hl.1 (c_X4_isSign l z2 (by omega)) k_X4_isSign u_ml_RX4_56 rfl rfl (Nat.le_of_ble_eq_true rfl) ⟨Nat.le_of_ble_eq_true rfl, Nat.le_of_ble_eq_true rfl⟩ ⟨Nat.le_of_ble_eq_true rfl, Nat.le_of_ble_eq_true rfl⟩ dX4_sign_15 ?_
    refine x_ifb_ne (tgt := 25) hx hb dX4_sign_18 (by decide)  (fun c_18 => ?_) (fun c_18 => ?_)
    · refine lv_aload_n hx hb dX4_sign_25 rfl (lv_at hl 0 rfl) ?_
      refine lv_aload_n hx hb dX4_sign_26 rfl (lv_at hl 0 rfl) ?_
      refine x_getn (T := TX2) (N := 2) hx hb hts uX2 hown hN hK hP (i := 13 + 2 * b1) (by omega) hr_b1.1 rfl 1 (by decide) (by simp only [xNest, List.mem_cons]; exact Or.inr (Or.inl rfl)) rfl dX4_sign_27 ?_
      refine lv_aload_n hx hb dX4_sign_30 rfl (lv_at hl 1 rfl) ?_
      refine lv_iload_n hx hb dX4_sign_31 rfl (lv_at hl 3 rfl) ?_
      obtain ⟨m0, f0, hr0⟩ := hC.rs
      refine xm_q (i := 0) (As := [.int (xI z2)]) (rest := [.int (xI ((S.1 b1).1 : Int)), .ref (ad (13 + 2 * b1))]) ⟨hx, hb, hml, hown, hts⟩ hl.1 (c_X4_single l D cA n ad en _ (by omega) hC hr0 z2 (by omega)) k_X4_single u_ml_RX4_64 hK hN hP (by omega) hC.1 rfl rfl rfl rfl (Nat.le_of_ble_eq_true rfl) ⟨Nat.le_of_ble_eq_true rfl, Nat.le_of_ble_eq_true rfl⟩ ⟨Nat.le_of_ble_eq_true rfl, Nat.le_of_ble_eq_true rfl⟩ dX4_sign_32 hD hS hA (fun r1 en1 H locs hp1 hP hS => ?_)
      obtain ⟨hr9, hrs, hos⟩ := hp1
      subst hr9
      have hC := hC.spare hos hrs
      have ho : xO 0 53 en en1 := hos.mo (by omega) (by omega)
      have hr_b1 : XR cA ad en1 (13 + 2 * b1) (S.1 b1).1 (S.1 b1).2 := hC.rb h_b1
      have hm_b1 := hr_b1.2.2.1
      refine xm_i (i := 13 + 2 * b1) (As := [.int (xI ((S.1 b1).1 : Int)), .ref (ad 11)]) (rest := []) ⟨hx, hb, hml, hown, hts⟩ hl.1 (c_X2_joinIn l D cA n ad en1 _ (by omega) hr_b1 (by omega) hrs (by omega) ((S.1 b1).1 : Int) (by omega)) k_X2_joinIn u_ml_RX4_67 hK hN hP (by omega) hr_b1.1 rfl rfl rfl rfl (Nat.le_of_ble_eq_true rfl) ⟨Nat.le_of_ble_eq_true rfl, Nat.le_of_ble_eq_true rfl⟩ ⟨Nat.le_of_ble_eq_true rfl, Nat.le_of_ble_eq_true rfl⟩ dX4_sign_35 hD hS hA (fun r2 en2 H locs hp2 hP hS => ?_)
      exact xe_i hx hb hrt hlocks hP hS (by unfold am_sign; simp only [Int.toNat_natCast]; rw [sp_if_f (by omega), sp_if_f (by omega)]; have q9 := x_fin hC h_b1 hp2 (by omega) (a := (S.1 b1).1) (e := (S.1 b1).1) (r0 := ((1, fun _ => z2) : xRow)) (by omega) (by omega) (by first | omega | (simp only []; omega)) (fun _ _ => rfl); exact ⟨q9.1, q9.2.1, (ho.tr (q9.2.2.mo (by omega) (by omega)))⟩) dX4_sign_38
    · refine x_sipush hx hb dX4_sign_21 (by decide +kernel) ?_
      exact xe_i hx hb hrt hlocks hP hS ((by unfold am_sign; simp only [Int.toNat_natCast]; rw [sp_if_f (by omega), sp_if_t (by omega)]; exact ⟨rfl, hC, xO.rf⟩)) dX4_sign_24
  · refine lv_aload_n hx hb dX4_sign_0 rfl (lv_at hl 0 rfl) ?_
    refine lv_iload_n hx hb dX4_sign_1 rfl (lv_at hl 1 rfl) ?_
    refine xv_q (i := 0) (As := [.int (xI z1)]) (rest := []) ⟨hx, hb, hml, hown, hts⟩ hl.1 (c_X4_builderOf_out l D cA n ad en (by omega) hC z1 (by omega) (by omega)) k_X4_builderOf u_ml_RX4_52 hK hN hP (by omega) hC.1 rfl rfl rfl rfl (Nat.le_of_ble_eq_true rfl) ⟨Nat.le_of_ble_eq_true rfl, Nat.le_of_ble_eq_true rfl⟩ ⟨Nat.le_of_ble_eq_true rfl, Nat.le_of_ble_eq_true rfl⟩ dX4_sign_2 ?_
    refine lv_astore_nN (lv' := [(3, .null), (0, .ref (ad 0)), (1, .int (xI z1)), (2, .int (xI z2))]) hx hb dX4_sign_5 rfl hl (by decide) rfl (fun ls hl => ?_)
    refine lv_aload_nN hx hb dX4_sign_6 rfl (lv_at hl 0 rfl) ?_
    refine lv_ifnonnullN hx hb dX4_sign_7 ?_
    refine x_sipush hx hb dX4_sign_10 (by decide +kernel) ?_
    exact xe_i hx hb hrt hlocks hP hS ((by unfold am_sign; rw [sp_if_t (by omega)]; exact ⟨rfl, hC, xO.rf⟩)) dX4_sign_13

set_option maxRecDepth 20000 in
theorem c_X4_signs (l : Launch) (D : va_G) (cA : Nat → ClassId) (n : Nat) (ad : Nat → Nat) (en : Nat → va_E) (sz : Nat) (hn : 53 ≤ n) {S : xSt} (hC : CW cA ad en S) (z1 : Int) (hz1 : -2147483648 ≤ z1 ∧ z1 ≤ 2147483647) (z2 : Int) (hz2 : -2147483648 ≤ z2 ∧ z2 ≤ 2147483647) (z3 : Int64) : Met l yX4_signs (Cond.code yX4_signs cX4_signs 6 (some .int) :: xU) (xrm 3 75) (va_Pc [.ref (ad 0), .int (xI z1), .int (xI z2), .long z3] (xM D cA n ad en sz)) (va_Qi (fun r u => r = xI (am_signs S z1 z2 z3).1 ∧ CW cA ad u (am_signs S z1 z2 z3).2 ∧ xO 0 53 en u) (xE D n ad) (xA n ad sz)) 0 0 (xA n ad sz) := by
  refine xmet (by decide) (Nat.le_of_ble_eq_true rfl) (fun p e s mm args below meth c ls hx hb hrt hml hown hts hlocks hname hB hl => ?_)
  obtain ⟨⟨hP, hK, hN⟩, hsz, hDt⟩ := hB
  have hD : xD (xA n ad sz) n ad := xD_self hDt sz
  have hA : ∀ q : Nat, s.heap.size ≤ q → xA n ad sz q := fun q h => Or.inr (by rw [← hsz]; exact h)
  have hS : va_S (xA n ad sz) s.heap s.heap [] := va_S.rf
  have hown : s.vm.findClass RX4 = some mm.cls := hown
  have hl : lv_has ls 6 [(0, .ref (ad 0)), (1, .int (xI z1)), (2, .int (xI z2)), (3, .long z3)] := hl
  rcases Classical.em (0 ≤ z1 ∧ z1 < 4) with hx_z1 | hx_z1
  · obtain ⟨b1, rfl⟩ : ∃ q : Nat, z1 = (q : Int) := ⟨z1.toNat, by omega⟩
    have h_b1 : b1 < 4 := by omega
    have hr_b1 : XR cA ad en (13 + 2 * b1) (S.1 b1).1 (S.1 b1).2 := hC.rb h_b1
    have hm_b1 := hr_b1.2.2.1
    refine lv_aload_n hx hb dX4_signs_0 rfl (lv_at hl 0 rfl) ?_
    refine lv_iload_n hx hb dX4_signs_1 rfl (lv_at hl 1 rfl) ?_
    refine xv_q (i := 0) (As := [.int (xI (b1 : Int))]) (rest := []) ⟨hx, hb, hml, hown, hts⟩ hl.1 (c_X4_builderOf_in l D cA n ad en (by omega) hC b1 (by omega)) k_X4_builderOf u_ml_RX4_52 hK hN hP (by omega) hC.1 rfl rfl rfl rfl (Nat.le_of_ble_eq_true rfl) ⟨Nat.le_of_ble_eq_true rfl, Nat.le_of_ble_eq_true rfl⟩ ⟨Nat.le_of_ble_eq_true rfl, Nat.le_of_ble_eq_true rfl⟩ dX4_signs_2 ?_
    refine lv_astore (lv' := [(5, .ref (ad (13 + 2 * b1))), (0, .ref (ad 0)), (1, .int (xI (b1 : Int))), (2, .int (xI z2)), (3, .long z3)]) hx hb dX4_signs_5 hl (by decide) rfl (fun ls hl => ?_)
    refine lv_aload hx hb dX4_signs_7 (lv_at hl 0 rfl) ?_
    refine lv_ifnonnull (tgt := 16) hx hb dX4_signs_9 (by decide) ?_
    refine lv_iload_n hx hb dX4_signs_16 rfl (lv_at hl 3 rfl) ?_
    refine x_if_lt (tgt := 26) hx hb dX4_signs_17 (by decide) (by omega) (fun c_17 => ?_) (fun c_17 => ?_)
    · refine x_sipush hx hb dX4_signs_26 (by decide +kernel) ?_
      exact xe_i hx hb hrt hlocks hP hS ((by unfold am_signs; simp only [Int.toNat_natCast]; rw [sp_if_f (by omega), sp_if_t (by omega)]; exact ⟨rfl, hC, xO.rf⟩)) dX4_signs_29
    · refine lv_iload_n hx hb dX4_signs_20 rfl (lv_at hl 3 rfl) ?_
      refine x_bipush hx hb dX4_signs_21 (by decide +kernel) ?_
      refine x_icmp_le (tgt := 30) hx hb dX4_signs_23 (by decide) (by omega) (fun c_23 => ?_) (fun c_23 => ?_)
      · obtain ⟨k2, rfl⟩ : ∃ q : Nat, z2 = (q : Int) := ⟨z2.toNat, by omega⟩
        refine lv_aload hx hb dX4_signs_30 (lv_at hl 0 rfl) ?_
        refine lv_aload hx hb dX4_signs_32 (lv_at hl 0 rfl) ?_
        refine x_getn (T := TX2) (N := 2) hx hb hts uX2 hown hN hK hP (i := 13 + 2 * b1) (by omega) hr_b1.1 rfl 1 (by decide) (by simp only [xNest, List.mem_cons]; exact Or.inr (Or.inl rfl)) rfl dX4_signs_34 ?_
        refine lv_aload_n hx hb dX4_signs_37 rfl (lv_at hl 1 rfl) ?_
        refine lv_iload_n hx hb dX4_signs_38 rfl (lv_at hl 3 rfl) ?_
        refine lv_lload_n hx hb dX4_signs_39 rfl (lv_at hl 4 rfl) ?_
        obtain ⟨m0, f0, hr0⟩ := hC.rs
        refine xm_q (i := 0) (As := [.int (xI (k2 : Int)), .long z3]) (rest := [.int (xI ((S.1 b1).1 : Int)), .ref (ad (13 + 2 * b1))]) ⟨hx, hb, hml, hown, hts⟩ hl.1 (c_X4_lowBytes l D cA n ad en _ (by omega) hC hr0 k2 (by omega) z3) k_X4_lowBytes u_ml_RX4_71 hK hN hP (by omega) hC.1 rfl rfl rfl rfl (Nat.le_of_ble_eq_true rfl) ⟨Nat.le_of_ble_eq_true rfl, Nat.le_of_ble_eq_true rfl⟩ ⟨Nat.le_of_ble_eq_true rfl, Nat.le_of_ble_eq_true rfl⟩ dX4_signs_40 hD hS hA (fun r1 en1 H locs hp1 hP hS => ?_)
        obtain ⟨hr9, hrs, hos⟩ := hp1
        subst hr9
        have hC := hC.spare hos hrs
        have ho : xO 0 53 en en1 := hos.mo (by omega) (by omega)
        have hr_b1 : XR cA ad en1 (13 + 2 * b1) (S.1 b1).1 (S.1 b1).2 := hC.rb h_b1
        have hm_b1 := hr_b1.2.2.1
        refine xm_i (i := 13 + 2 * b1) (As := [.int (xI ((S.1 b1).1 : Int)), .ref (ad 11)]) (rest := []) ⟨hx, hb, hml, hown, hts⟩ hl.1 (c_X2_joinIn l D cA n ad en1 _ (by omega) hr_b1 (by omega) hrs (by omega) ((S.1 b1).1 : Int) (by omega)) k_X2_joinIn u_ml_RX4_67 hK hN hP (by omega) hr_b1.1 rfl rfl rfl rfl (Nat.le_of_ble_eq_true rfl) ⟨Nat.le_of_ble_eq_true rfl, Nat.le_of_ble_eq_true rfl⟩ ⟨Nat.le_of_ble_eq_true rfl, Nat.le_of_ble_eq_true rfl⟩ dX4_signs_43 hD hS hA (fun r2 en2 H locs hp2 hP hS => ?_)
        exact xe_i hx hb hrt hlocks hP hS (by unfold am_signs; simp only [Int.toNat_natCast]; rw [sp_if_f (by omega), sp_if_f (by omega)]; have q9 := x_fin hC h_b1 hp2 (by omega) (a := (S.1 b1).1) (e := (S.1 b1).1) (r0 := ((k2, fun q => sp_by z3 (k2 - 1 - q)) : xRow)) (by omega) (by omega) (by first | omega | (simp only []; omega)) (fun t ht => by rw [show Int.toNat 0 + t = t from Nat.zero_add t]); exact ⟨q9.1, q9.2.1, (ho.tr (q9.2.2.mo (by omega) (by omega)))⟩) dX4_signs_46
      · refine x_sipush hx hb dX4_signs_26 (by decide +kernel) ?_
        exact xe_i hx hb hrt hlocks hP hS ((by unfold am_signs; simp only [Int.toNat_natCast]; rw [sp_if_f (by omega), sp_if_t (by omega)]; exact ⟨rfl, hC, xO.rf⟩)) dX4_signs_29
  · refine lv_aload_n hx hb dX4_signs_0 rfl (lv_at hl 0 rfl) ?_
    refine lv_iload_n hx hb dX4_signs_1 rfl (lv_at hl 1 rfl) ?_
    refine xv_q (i := 0) (As := [.int (xI z1)]) (rest := []) ⟨hx, hb, hml, hown, hts⟩ hl.1 (c_X4_builderOf_out l D cA n ad en (by omega) hC z1 (by omega) (by omega)) k_X4_builderOf u_ml_RX4_52 hK hN hP (by omega) hC.1 rfl rfl rfl rfl (Nat.le_of_ble_eq_true rfl) ⟨Nat.le_of_ble_eq_true rfl, Nat.le_of_ble_eq_true rfl⟩ ⟨Nat.le_of_ble_eq_true rfl, Nat.le_of_ble_eq_true rfl⟩ dX4_signs_2 ?_
    refine lv_astoreN (lv' := [(5, .null), (0, .ref (ad 0)), (1, .int (xI z1)), (2, .int (xI z2)), (3, .long z3)]) hx hb dX4_signs_5 hl (by decide) rfl (fun ls hl => ?_)
    refine lv_aloadN hx hb dX4_signs_7 (lv_at hl 0 rfl) ?_
    refine lv_ifnonnullN hx hb dX4_signs_9 ?_
    refine x_sipush hx hb dX4_signs_12 (by decide +kernel) ?_
    exact xe_i hx hb hrt hlocks hP hS ((by unfold am_signs; rw [sp_if_t (by omega)]; exact ⟨rfl, hC, xO.rf⟩)) dX4_signs_15

set_option maxRecDepth 20000 in
theorem c_X4_text (l : Launch) (D : va_G) (cA : Nat → ClassId) (n : Nat) (ad : Nat → Nat) (en : Nat → va_E) (sz : Nat) (hn : 53 ≤ n) {S : xSt} (hC : CW cA ad en S) (z1 : Int) (hz1 : -2147483648 ≤ z1 ∧ z1 ≤ 2147483647) (z2 : Int) (hz2 : -2147483648 ≤ z2 ∧ z2 ≤ 2147483647) : Met l yX4_text (Cond.code yX4_text cX4_text 5 (some .int) :: xU) (xrm 3 75) (va_Pc [.ref (ad 0), .int (xI z1), .int (xI z2)] (xM D cA n ad en sz)) (va_Qi (fun r u => r = xI (am_text S z1 z2).1 ∧ CW cA ad u (am_text S z1 z2).2 ∧ xO 0 53 en u) (xE D n ad) (xA n ad sz)) 0 0 (xA n ad sz) := by
  refine xmet (by decide) (Nat.le_of_ble_eq_true rfl) (fun p e s mm args below meth c ls hx hb hrt hml hown hts hlocks hname hB hl => ?_)
  obtain ⟨⟨hP, hK, hN⟩, hsz, hDt⟩ := hB
  have hD : xD (xA n ad sz) n ad := xD_self hDt sz
  have hA : ∀ q : Nat, s.heap.size ≤ q → xA n ad sz q := fun q h => Or.inr (by rw [← hsz]; exact h)
  have hS : va_S (xA n ad sz) s.heap s.heap [] := va_S.rf
  have hown : s.vm.findClass RX4 = some mm.cls := hown
  have hl : lv_has ls 5 [(0, .ref (ad 0)), (1, .int (xI z1)), (2, .int (xI z2))] := hl
  rcases Classical.em (0 ≤ z1 ∧ z1 < 4) with hx_z1 | hx_z1
  · obtain ⟨b1, rfl⟩ : ∃ q : Nat, z1 = (q : Int) := ⟨z1.toNat, by omega⟩
    have h_b1 : b1 < 4 := by omega
    rcases Classical.em (0 ≤ z2 ∧ z2 < 8) with hx_z2 | hx_z2
    · obtain ⟨t2, rfl⟩ : ∃ q : Nat, z2 = (q : Int) := ⟨z2.toNat, by omega⟩
      have h_t2 : t2 < 8 := by omega
      rcases hS_t2 : S.2.1 t2 with _ | r_t2
      · have hr_b1 : XR cA ad en (13 + 2 * b1) (S.1 b1).1 (S.1 b1).2 := hC.rb h_b1
        have hm_b1 := hr_b1.2.2.1
        have hT_t2 : XT cA ad en (21 + 3 * t2) none := by have q : XT cA ad en (21 + 3 * t2) (S.2.1 t2) := hC.rt h_t2; rw [hS_t2] at q; exact q
        refine lv_aload_n hx hb dX4_text_0 rfl (lv_at hl 0 rfl) ?_
        refine lv_iload_n hx hb dX4_text_1 rfl (lv_at hl 1 rfl) ?_
        refine xv_q (i := 0) (As := [.int (xI (b1 : Int))]) (rest := []) ⟨hx, hb, hml, hown, hts⟩ hl.1 (c_X4_builderOf_in l D cA n ad en (by omega) hC b1 (by omega)) k_X4_builderOf u_ml_RX4_52 hK hN hP (by omega) hC.1 rfl rfl rfl rfl (Nat.le_of_ble_eq_true rfl) ⟨Nat.le_of_ble_eq_true rfl, Nat.le_of_ble_eq_true rfl⟩ ⟨Nat.le_of_ble_eq_true rfl, Nat.le_of_ble_eq_true rfl⟩ dX4_text_2 ?_
        refine lv_astore_n (lv' := [(3, .ref (ad (13 + 2 * b1))), (0, .ref (ad 0)), (1, .int (xI (b1 : Int))), (2, .int (xI (t2 : Int)))]) hx hb dX4_text_5 rfl hl (by decide) rfl (fun ls hl => ?_)
        refine lv_aload_n hx hb dX4_text_6 rfl (lv_at hl 1 rfl) ?_
        refine lv_iload_n hx hb dX4_text_7 rfl (lv_at hl 3 rfl) ?_
        have hr_4 := hC.r4
        refine xv_q (i := 0) (As := [.int (xI (t2 : Int))]) (rest := []) ⟨hx, hb, hml, hown, hts⟩ hl.1 (c_X4_textOrFour_none l D cA n ad en (by omega) hC t2 (by omega) hS_t2) k_X4_textOrFour u_ml_RX4_75 hK hN hP (by omega) hC.1 rfl rfl rfl rfl (Nat.le_of_ble_eq_true rfl) ⟨Nat.le_of_ble_eq_true rfl, Nat.le_of_ble_eq_true rfl⟩ ⟨Nat.le_of_ble_eq_true rfl, Nat.le_of_ble_eq_true rfl⟩ dX4_text_8 ?_
        refine lv_astore (lv' := [(4, .ref (ad 9)), (3, .ref (ad (13 + 2 * b1))), (0, .ref (ad 0)), (1, .int (xI (b1 : Int))), (2, .int (xI (t2 : Int)))]) hx hb dX4_text_11 hl (by decide) rfl (fun ls hl => ?_)
        refine lv_aload_n hx hb dX4_text_13 rfl (lv_at hl 1 rfl) ?_
        refine lv_ifnull hx hb dX4_text_14 ?_
        refine lv_aload hx hb dX4_text_17 (lv_at hl 0 rfl) ?_
        refine lv_ifnonnull (tgt := 26) hx hb dX4_text_19 (by decide) ?_
        refine lv_aload_n hx hb dX4_text_26 rfl (lv_at hl 1 rfl) ?_
        refine lv_aload_n hx hb dX4_text_27 rfl (lv_at hl 1 rfl) ?_
        refine x_getn (T := TX2) (N := 2) hx hb hts uX2 hown hN hK hP (i := 13 + 2 * b1) (by omega) hr_b1.1 rfl 1 (by decide) (by simp only [xNest, List.mem_cons]; exact Or.inr (Or.inl rfl)) rfl dX4_text_28 ?_
        refine lv_aload hx hb dX4_text_31 (lv_at hl 0 rfl) ?_
        refine xm_i (i := 13 + 2 * b1) (As := [.int (xI ((S.1 b1).1 : Int)), .ref (ad 9)]) (rest := []) ⟨hx, hb, hml, hown, hts⟩ hl.1 (c_X2_joinIn l D cA n ad en _ (by omega) hr_b1 (by omega) hr_4 (by omega) ((S.1 b1).1 : Int) (by omega)) k_X2_joinIn u_ml_RX4_67 hK hN hP (by omega) hr_b1.1 rfl rfl rfl rfl (Nat.le_of_ble_eq_true rfl) ⟨Nat.le_of_ble_eq_true rfl, Nat.le_of_ble_eq_true rfl⟩ ⟨Nat.le_of_ble_eq_true rfl, Nat.le_of_ble_eq_true rfl⟩ dX4_text_33 hD hS hA (fun r1 en1 H locs hp1 hP hS => ?_)
        exact xe_i hx hb hrt hlocks hP hS (by unfold am_text; simp only [Int.toNat_natCast]; simp only [sp_told_n hS_t2]; rw [sp_if_f (by omega)]; have q9 := x_fin hC h_b1 hp1 (by omega) (a := (S.1 b1).1) (e := (S.1 b1).1) (r0 := ((4, sp_four) : xRow)) (by omega) (by omega) (by first | omega | (simp only []; omega)) (fun t ht => by rw [show Int.toNat 0 + t = t from Nat.zero_add t]); exact ⟨q9.1, q9.2.1, (q9.2.2.mo (by omega) (by omega))⟩) dX4_text_36
      · have hr_b1 : XR cA ad en (13 + 2 * b1) (S.1 b1).1 (S.1 b1).2 := hC.rb h_b1
        have hm_b1 := hr_b1.2.2.1
        have hT_t2 : XT cA ad en (21 + 3 * t2) (some r_t2) := by have q : XT cA ad en (21 + 3 * t2) (S.2.1 t2) := hC.rt h_t2; rw [hS_t2] at q; exact q
        have hr_t2 := hT_t2.2
        have hm_t2 := hr_t2.2.2.1
        refine lv_aload_n hx hb dX4_text_0 rfl (lv_at hl 0 rfl) ?_
        refine lv_iload_n hx hb dX4_text_1 rfl (lv_at hl 1 rfl) ?_
        refine xv_q (i := 0) (As := [.int (xI (b1 : Int))]) (rest := []) ⟨hx, hb, hml, hown, hts⟩ hl.1 (c_X4_builderOf_in l D cA n ad en (by omega) hC b1 (by omega)) k_X4_builderOf u_ml_RX4_52 hK hN hP (by omega) hC.1 rfl rfl rfl rfl (Nat.le_of_ble_eq_true rfl) ⟨Nat.le_of_ble_eq_true rfl, Nat.le_of_ble_eq_true rfl⟩ ⟨Nat.le_of_ble_eq_true rfl, Nat.le_of_ble_eq_true rfl⟩ dX4_text_2 ?_
        refine lv_astore_n (lv' := [(3, .ref (ad (13 + 2 * b1))), (0, .ref (ad 0)), (1, .int (xI (b1 : Int))), (2, .int (xI (t2 : Int)))]) hx hb dX4_text_5 rfl hl (by decide) rfl (fun ls hl => ?_)
        refine lv_aload_n hx hb dX4_text_6 rfl (lv_at hl 1 rfl) ?_
        refine lv_iload_n hx hb dX4_text_7 rfl (lv_at hl 3 rfl) ?_
        refine xv_q (i := 0) (As := [.int (xI (t2 : Int))]) (rest := []) ⟨hx, hb, hml, hown, hts⟩ hl.1 (c_X4_textOrFour_some l D cA n ad en (by omega) hC t2 (by omega) hS_t2) k_X4_textOrFour u_ml_RX4_75 hK hN hP (by omega) hC.1 rfl rfl rfl rfl (Nat.le_of_ble_eq_true rfl) ⟨Nat.le_of_ble_eq_true rfl, Nat.le_of_ble_eq_true rfl⟩ ⟨Nat.le_of_ble_eq_true rfl, Nat.le_of_ble_eq_true rfl⟩ dX4_text_8 ?_
        refine lv_astore (lv' := [(4, .ref (ad (21 + 3 * t2 + 1))), (3, .ref (ad (13 + 2 * b1))), (0, .ref (ad 0)), (1, .int (xI (b1 : Int))), (2, .int (xI (t2 : Int)))]) hx hb dX4_text_11 hl (by decide) rfl (fun ls hl => ?_)
        refine lv_aload_n hx hb dX4_text_13 rfl (lv_at hl 1 rfl) ?_
        refine lv_ifnull hx hb dX4_text_14 ?_
        refine lv_aload hx hb dX4_text_17 (lv_at hl 0 rfl) ?_
        refine lv_ifnonnull (tgt := 26) hx hb dX4_text_19 (by decide) ?_
        refine lv_aload_n hx hb dX4_text_26 rfl (lv_at hl 1 rfl) ?_
        refine lv_aload_n hx hb dX4_text_27 rfl (lv_at hl 1 rfl) ?_
        refine x_getn (T := TX2) (N := 2) hx hb hts uX2 hown hN hK hP (i := 13 + 2 * b1) (by omega) hr_b1.1 rfl 1 (by decide) (by simp only [xNest, List.mem_cons]; exact Or.inr (Or.inl rfl)) rfl dX4_text_28 ?_
        refine lv_aload hx hb dX4_text_31 (lv_at hl 0 rfl) ?_
        refine xm_i (i := 13 + 2 * b1) (As := [.int (xI ((S.1 b1).1 : Int)), .ref (ad (21 + 3 * t2 + 1))]) (rest := []) ⟨hx, hb, hml, hown, hts⟩ hl.1 (c_X2_joinIn l D cA n ad en _ (by omega) hr_b1 (by omega) hr_t2 (by omega) ((S.1 b1).1 : Int) (by omega)) k_X2_joinIn u_ml_RX4_67 hK hN hP (by omega) hr_b1.1 rfl rfl rfl rfl (Nat.le_of_ble_eq_true rfl) ⟨Nat.le_of_ble_eq_true rfl, Nat.le_of_ble_eq_true rfl⟩ ⟨Nat.le_of_ble_eq_true rfl, Nat.le_of_ble_eq_true rfl⟩ dX4_text_33 hD hS hA (fun r2 en2 H locs hp2 hP hS => ?_)
        exact xe_i hx hb hrt hlocks hP hS (by unfold am_text; simp only [Int.toNat_natCast]; simp only [sp_told_s hS_t2]; rw [sp_if_f (by omega)]; have q9 := x_fin hC h_b1 hp2 (by omega) (a := (S.1 b1).1) (e := (S.1 b1).1) (r0 := r_t2) (by omega) (by omega) (by first | omega | (simp only []; omega)) (fun t ht => by rw [show Int.toNat 0 + t = t from Nat.zero_add t]); exact ⟨q9.1, q9.2.1, (q9.2.2.mo (by omega) (by omega))⟩) dX4_text_36
    · have hr_b1 : XR cA ad en (13 + 2 * b1) (S.1 b1).1 (S.1 b1).2 := hC.rb h_b1
      have hm_b1 := hr_b1.2.2.1
      refine lv_aload_n hx hb dX4_text_0 rfl (lv_at hl 0 rfl) ?_
      refine lv_iload_n hx hb dX4_text_1 rfl (lv_at hl 1 rfl) ?_
      refine xv_q (i := 0) (As := [.int (xI (b1 : Int))]) (rest := []) ⟨hx, hb, hml, hown, hts⟩ hl.1 (c_X4_builderOf_in l D cA n ad en (by omega) hC b1 (by omega)) k_X4_builderOf u_ml_RX4_52 hK hN hP (by omega) hC.1 rfl rfl rfl rfl (Nat.le_of_ble_eq_true rfl) ⟨Nat.le_of_ble_eq_true rfl, Nat.le_of_ble_eq_true rfl⟩ ⟨Nat.le_of_ble_eq_true rfl, Nat.le_of_ble_eq_true rfl⟩ dX4_text_2 ?_
      refine lv_astore_n (lv' := [(3, .ref (ad (13 + 2 * b1))), (0, .ref (ad 0)), (1, .int (xI (b1 : Int))), (2, .int (xI z2))]) hx hb dX4_text_5 rfl hl (by decide) rfl (fun ls hl => ?_)
      refine lv_aload_n hx hb dX4_text_6 rfl (lv_at hl 1 rfl) ?_
      refine lv_iload_n hx hb dX4_text_7 rfl (lv_at hl 3 rfl) ?_
      refine xv_q (i := 0) (As := [.int (xI z2)]) (rest := []) ⟨hx, hb, hml, hown, hts⟩ hl.1 (c_X4_textOrFour_out l D cA n ad en (by omega) hC z2 (by omega) (by omega)) k_X4_textOrFour u_ml_RX4_75 hK hN hP (by omega) hC.1 rfl rfl rfl rfl (Nat.le_of_ble_eq_true rfl) ⟨Nat.le_of_ble_eq_true rfl, Nat.le_of_ble_eq_true rfl⟩ ⟨Nat.le_of_ble_eq_true rfl, Nat.le_of_ble_eq_true rfl⟩ dX4_text_8 ?_
      refine lv_astoreN (lv' := [(4, .null), (3, .ref (ad (13 + 2 * b1))), (0, .ref (ad 0)), (1, .int (xI (b1 : Int))), (2, .int (xI z2))]) hx hb dX4_text_11 hl (by decide) rfl (fun ls hl => ?_)
      refine lv_aload_n hx hb dX4_text_13 rfl (lv_at hl 1 rfl) ?_
      refine lv_ifnull hx hb dX4_text_14 ?_
      refine lv_aloadN hx hb dX4_text_17 (lv_at hl 0 rfl) ?_
      refine lv_ifnonnullN hx hb dX4_text_19 ?_
      refine x_sipush hx hb dX4_text_22 (by decide +kernel) ?_
      exact xe_i hx hb hrt hlocks hP hS ((by unfold am_text; simp only [Int.toNat_natCast]; rw [sp_if_t (by omega)]; exact ⟨rfl, hC, xO.rf⟩)) dX4_text_25
  · rcases Classical.em (0 ≤ z2 ∧ z2 < 8) with hx_z2 | hx_z2
    · obtain ⟨t2, rfl⟩ : ∃ q : Nat, z2 = (q : Int) := ⟨z2.toNat, by omega⟩
      have h_t2 : t2 < 8 := by omega
      rcases hS_t2 : S.2.1 t2 with _ | r_t2
      · have hT_t2 : XT cA ad en (21 + 3 * t2) none := by have q : XT cA ad en (21 + 3 * t2) (S.2.1 t2) := hC.rt h_t2; rw [hS_t2] at q; exact q
        refine lv_aload_n hx hb dX4_text_0 rfl (lv_at hl 0 rfl) ?_
        refine lv_iload_n hx hb dX4_text_1 rfl (lv_at hl 1 rfl) ?_
        refine xv_q (i := 0) (As := [.int (xI z1)]) (rest := []) ⟨hx, hb, hml, hown, hts⟩ hl.1 (c_X4_builderOf_out l D cA n ad en (by omega) hC z1 (by omega) (by omega)) k_X4_builderOf u_ml_RX4_52 hK hN hP (by omega) hC.1 rfl rfl rfl rfl (Nat.le_of_ble_eq_true rfl) ⟨Nat.le_of_ble_eq_true rfl, Nat.le_of_ble_eq_true rfl⟩ ⟨Nat.le_of_ble_eq_true rfl, Nat.le_of_ble_eq_true rfl⟩ dX4_text_2 ?_
        refine lv_astore_nN (lv' := [(3, .null), (0, .ref (ad 0)), (1, .int (xI z1)), (2, .int (xI (t2 : Int)))]) hx hb dX4_text_5 rfl hl (by decide) rfl (fun ls hl => ?_)
        refine lv_aload_n hx hb dX4_text_6 rfl (lv_at hl 1 rfl) ?_
        refine lv_iload_n hx hb dX4_text_7 rfl (lv_at hl 3 rfl) ?_
        have hr_4 := hC.r4
        refine xv_q (i := 0) (As := [.int (xI (t2 : Int))]) (rest := []) ⟨hx, hb, hml, hown, hts⟩ hl.1 (c_X4_textOrFour_none l D cA n ad en (by omega) hC t2 (by omega) hS_t2) k_X4_textOrFour u_ml_RX4_75 hK hN hP (by omega) hC.1 rfl rfl rfl rfl (Nat.le_of_ble_eq_true rfl) ⟨Nat.le_of_ble_eq_true rfl, Nat.le_of_ble_eq_true rfl⟩ ⟨Nat.le_of_ble_eq_true rfl, Nat.le_of_ble_eq_true rfl⟩ dX4_text_8 ?_
        refine lv_astore (lv' := [(4, .ref (ad 9)), (3, .null), (0, .ref (ad 0)), (1, .int (xI z1)), (2, .int (xI (t2 : Int)))]) hx hb dX4_text_11 hl (by decide) rfl (fun ls hl => ?_)
        refine lv_aload_nN hx hb dX4_text_13 rfl (lv_at hl 1 rfl) ?_
        refine lv_ifnullN (tgt := 22) hx hb dX4_text_14 (by decide) ?_
        refine x_sipush hx hb dX4_text_22 (by decide +kernel) ?_
        exact xe_i hx hb hrt hlocks hP hS ((by unfold am_text; simp only [Int.toNat_natCast]; simp only [sp_told_n hS_t2]; rw [sp_if_t (by omega)]; exact ⟨rfl, hC, xO.rf⟩)) dX4_text_25
      · have hT_t2 : XT cA ad en (21 + 3 * t2) (some r_t2) := by have q : XT cA ad en (21 + 3 * t2) (S.2.1 t2) := hC.rt h_t2; rw [hS_t2] at q; exact q
        have hr_t2 := hT_t2.2
        have hm_t2 := hr_t2.2.2.1
        refine lv_aload_n hx hb dX4_text_0 rfl (lv_at hl 0 rfl) ?_
        refine lv_iload_n hx hb dX4_text_1 rfl (lv_at hl 1 rfl) ?_
        refine xv_q (i := 0) (As := [.int (xI z1)]) (rest := []) ⟨hx, hb, hml, hown, hts⟩ hl.1 (c_X4_builderOf_out l D cA n ad en (by omega) hC z1 (by omega) (by omega)) k_X4_builderOf u_ml_RX4_52 hK hN hP (by omega) hC.1 rfl rfl rfl rfl (Nat.le_of_ble_eq_true rfl) ⟨Nat.le_of_ble_eq_true rfl, Nat.le_of_ble_eq_true rfl⟩ ⟨Nat.le_of_ble_eq_true rfl, Nat.le_of_ble_eq_true rfl⟩ dX4_text_2 ?_
        refine lv_astore_nN (lv' := [(3, .null), (0, .ref (ad 0)), (1, .int (xI z1)), (2, .int (xI (t2 : Int)))]) hx hb dX4_text_5 rfl hl (by decide) rfl (fun ls hl => ?_)
        refine lv_aload_n hx hb dX4_text_6 rfl (lv_at hl 1 rfl) ?_
        refine lv_iload_n hx hb dX4_text_7 rfl (lv_at hl 3 rfl) ?_
        refine xv_q (i := 0) (As := [.int (xI (t2 : Int))]) (rest := []) ⟨hx, hb, hml, hown, hts⟩ hl.1 (c_X4_textOrFour_some l D cA n ad en (by omega) hC t2 (by omega) hS_t2) k_X4_textOrFour u_ml_RX4_75 hK hN hP (by omega) hC.1 rfl rfl rfl rfl (Nat.le_of_ble_eq_true rfl) ⟨Nat.le_of_ble_eq_true rfl, Nat.le_of_ble_eq_true rfl⟩ ⟨Nat.le_of_ble_eq_true rfl, Nat.le_of_ble_eq_true rfl⟩ dX4_text_8 ?_
        refine lv_astore (lv' := [(4, .ref (ad (21 + 3 * t2 + 1))), (3, .null), (0, .ref (ad 0)), (1, .int (xI z1)), (2, .int (xI (t2 : Int)))]) hx hb dX4_text_11 hl (by decide) rfl (fun ls hl => ?_)
        refine lv_aload_nN hx hb dX4_text_13 rfl (lv_at hl 1 rfl) ?_
        refine lv_ifnullN (tgt := 22) hx hb dX4_text_14 (by decide) ?_
        refine x_sipush hx hb dX4_text_22 (by decide +kernel) ?_
        exact xe_i hx hb hrt hlocks hP hS ((by unfold am_text; simp only [Int.toNat_natCast]; simp only [sp_told_s hS_t2]; rw [sp_if_t (by omega)]; exact ⟨rfl, hC, xO.rf⟩)) dX4_text_25
    · refine lv_aload_n hx hb dX4_text_0 rfl (lv_at hl 0 rfl) ?_
      refine lv_iload_n hx hb dX4_text_1 rfl (lv_at hl 1 rfl) ?_
      refine xv_q (i := 0) (As := [.int (xI z1)]) (rest := []) ⟨hx, hb, hml, hown, hts⟩ hl.1 (c_X4_builderOf_out l D cA n ad en (by omega) hC z1 (by omega) (by omega)) k_X4_builderOf u_ml_RX4_52 hK hN hP (by omega) hC.1 rfl rfl rfl rfl (Nat.le_of_ble_eq_true rfl) ⟨Nat.le_of_ble_eq_true rfl, Nat.le_of_ble_eq_true rfl⟩ ⟨Nat.le_of_ble_eq_true rfl, Nat.le_of_ble_eq_true rfl⟩ dX4_text_2 ?_
      refine lv_astore_nN (lv' := [(3, .null), (0, .ref (ad 0)), (1, .int (xI z1)), (2, .int (xI z2))]) hx hb dX4_text_5 rfl hl (by decide) rfl (fun ls hl => ?_)
      refine lv_aload_n hx hb dX4_text_6 rfl (lv_at hl 1 rfl) ?_
      refine lv_iload_n hx hb dX4_text_7 rfl (lv_at hl 3 rfl) ?_
      refine xv_q (i := 0) (As := [.int (xI z2)]) (rest := []) ⟨hx, hb, hml, hown, hts⟩ hl.1 (c_X4_textOrFour_out l D cA n ad en (by omega) hC z2 (by omega) (by omega)) k_X4_textOrFour u_ml_RX4_75 hK hN hP (by omega) hC.1 rfl rfl rfl rfl (Nat.le_of_ble_eq_true rfl) ⟨Nat.le_of_ble_eq_true rfl, Nat.le_of_ble_eq_true rfl⟩ ⟨Nat.le_of_ble_eq_true rfl, Nat.le_of_ble_eq_true rfl⟩ dX4_text_8 ?_
      refine lv_astoreN (lv' := [(4, .null), (3, .null), (0, .ref (ad 0)), (1, .int (xI z1)), (2, .int (xI z2))]) hx hb dX4_text_11 hl (by decide) rfl (fun ls hl => ?_)
      refine lv_aload_nN hx hb dX4_text_13 rfl (lv_at hl 1 rfl) ?_
      refine lv_ifnullN (tgt := 22) hx hb dX4_text_14 (by decide) ?_
      refine x_sipush hx hb dX4_text_22 (by decide +kernel) ?_
      exact xe_i hx hb hrt hlocks hP hS ((by unfold am_text; rw [sp_if_t (by omega)]; exact ⟨rfl, hC, xO.rf⟩)) dX4_text_25

set_option maxRecDepth 20000 in
theorem c_X4_part (l : Launch) (D : va_G) (cA : Nat → ClassId) (n : Nat) (ad : Nat → Nat) (en : Nat → va_E) (sz : Nat) (hn : 53 ≤ n) {S : xSt} (hC : CW cA ad en S) (z1 : Int) (hz1 : -2147483648 ≤ z1 ∧ z1 ≤ 2147483647) (z2 : Int) (hz2 : -2147483648 ≤ z2 ∧ z2 ≤ 2147483647) (z3 : Int) (hz3 : -2147483648 ≤ z3 ∧ z3 ≤ 2147483647) (z4 : Int) (hz4 : -2147483648 ≤ z4 ∧ z4 ≤ 2147483647) : Met l yX4_part (Cond.code yX4_part cX4_part 7 (some .int) :: xU) (xrm 2 53) (va_Pc [.ref (ad 0), .int (xI z1), .int (xI z2), .int (xI z3), .int (xI z4)] (xM D cA n ad en sz)) (va_Qi (fun r u => r = xI (am_part S z1 z2 z3 z4).1 ∧ CW cA ad u (am_part S z1 z2 z3 z4).2 ∧ xO 0 53 en u) (xE D n ad) (xA n ad sz)) 0 0 (xA n ad sz) := by
  refine xmet (by decide) (Nat.le_of_ble_eq_true rfl) (fun p e s mm args below meth c ls hx hb hrt hml hown hts hlocks hname hB hl => ?_)
  obtain ⟨⟨hP, hK, hN⟩, hsz, hDt⟩ := hB
  have hD : xD (xA n ad sz) n ad := xD_self hDt sz
  have hA : ∀ q : Nat, s.heap.size ≤ q → xA n ad sz q := fun q h => Or.inr (by rw [← hsz]; exact h)
  have hS : va_S (xA n ad sz) s.heap s.heap [] := va_S.rf
  have hown : s.vm.findClass RX4 = some mm.cls := hown
  have hl : lv_has ls 7 [(0, .ref (ad 0)), (1, .int (xI z1)), (2, .int (xI z2)), (3, .int (xI z3)), (4, .int (xI z4))] := hl
  rcases Classical.em (0 ≤ z1 ∧ z1 < 4) with hx_z1 | hx_z1
  · obtain ⟨b1, rfl⟩ : ∃ q : Nat, z1 = (q : Int) := ⟨z1.toNat, by omega⟩
    have h_b1 : b1 < 4 := by omega
    rcases Classical.em (0 ≤ z2 ∧ z2 < 8) with hx_z2 | hx_z2
    · obtain ⟨t2, rfl⟩ : ∃ q : Nat, z2 = (q : Int) := ⟨z2.toNat, by omega⟩
      have h_t2 : t2 < 8 := by omega
      rcases hS_t2 : S.2.1 t2 with _ | r_t2
      · have hr_b1 : XR cA ad en (13 + 2 * b1) (S.1 b1).1 (S.1 b1).2 := hC.rb h_b1
        have hm_b1 := hr_b1.2.2.1
        have hT_t2 : XT cA ad en (21 + 3 * t2) none := by have q : XT cA ad en (21 + 3 * t2) (S.2.1 t2) := hC.rt h_t2; rw [hS_t2] at q; exact q
        refine lv_aload_n hx hb dX4_part_0 rfl (lv_at hl 0 rfl) ?_
        refine lv_iload_n hx hb dX4_part_1 rfl (lv_at hl 1 rfl) ?_
        refine xv_q (i := 0) (As := [.int (xI (b1 : Int))]) (rest := []) ⟨hx, hb, hml, hown, hts⟩ hl.1 (c_X4_builderOf_in l D cA n ad en (by omega) hC b1 (by omega)) k_X4_builderOf u_ml_RX4_52 hK hN hP (by omega) hC.1 rfl rfl rfl rfl (Nat.le_of_ble_eq_true rfl) ⟨Nat.le_of_ble_eq_true rfl, Nat.le_of_ble_eq_true rfl⟩ ⟨Nat.le_of_ble_eq_true rfl, Nat.le_of_ble_eq_true rfl⟩ dX4_part_2 ?_
        refine lv_astore (lv' := [(5, .ref (ad (13 + 2 * b1))), (0, .ref (ad 0)), (1, .int (xI (b1 : Int))), (2, .int (xI (t2 : Int))), (3, .int (xI z3)), (4, .int (xI z4))]) hx hb dX4_part_5 hl (by decide) rfl (fun ls hl => ?_)
        refine lv_aload_n hx hb dX4_part_7 rfl (lv_at hl 1 rfl) ?_
        refine lv_iload_n hx hb dX4_part_8 rfl (lv_at hl 3 rfl) ?_
        have hr_4 := hC.r4
        refine xv_q (i := 0) (As := [.int (xI (t2 : Int))]) (rest := []) ⟨hx, hb, hml, hown, hts⟩ hl.1 (c_X4_textOrFour_none l D cA n ad en (by omega) hC t2 (by omega) hS_t2) k_X4_textOrFour u_ml_RX4_75 hK hN hP (by omega) hC.1 rfl rfl rfl rfl (Nat.le_of_ble_eq_true rfl) ⟨Nat.le_of_ble_eq_true rfl, Nat.le_of_ble_eq_true rfl⟩ ⟨Nat.le_of_ble_eq_true rfl, Nat.le_of_ble_eq_true rfl⟩ dX4_part_9 ?_
        refine lv_astore (lv' := [(6, .ref (ad 9)), (5, .ref (ad (13 + 2 * b1))), (0, .ref (ad 0)), (1, .int (xI (b1 : Int))), (2, .int (xI (t2 : Int))), (3, .int (xI z3)), (4, .int (xI z4))]) hx hb dX4_part_12 hl (by decide) rfl (fun ls hl => ?_)
        refine lv_aload hx hb dX4_part_14 (lv_at hl 1 rfl) ?_
        refine lv_ifnull hx hb dX4_part_16 ?_
        refine lv_aload hx hb dX4_part_19 (lv_at hl 0 rfl) ?_
        refine lv_ifnonnull (tgt := 28) hx hb dX4_part_21 (by decide) ?_
        refine lv_aload hx hb dX4_part_28 (lv_at hl 1 rfl) ?_
        refine lv_aload hx hb dX4_part_30 (lv_at hl 1 rfl) ?_
        refine x_getn (T := TX2) (N := 2) hx hb hts uX2 hown hN hK hP (i := 13 + 2 * b1) (by omega) hr_b1.1 rfl 1 (by decide) (by simp only [xNest, List.mem_cons]; exact Or.inr (Or.inl rfl)) rfl dX4_part_32 ?_
        refine lv_aload hx hb dX4_part_35 (lv_at hl 1 rfl) ?_
        refine x_getn (T := TX2) (N := 2) hx hb hts uX2 hown hN hK hP (i := 13 + 2 * b1) (by omega) hr_b1.1 rfl 1 (by decide) (by simp only [xNest, List.mem_cons]; exact Or.inr (Or.inl rfl)) rfl dX4_part_37 ?_
        refine lv_aload hx hb dX4_part_40 (lv_at hl 0 rfl) ?_
        refine lv_iload_n hx hb dX4_part_42 rfl (lv_at hl 5 rfl) ?_
        refine lv_iload hx hb dX4_part_43 (lv_at hl 6 rfl) ?_
        refine xm_i (i := 13 + 2 * b1) (As := [.int (xI ((S.1 b1).1 : Int)), .int (xI ((S.1 b1).1 : Int)), .ref (ad 9), .int (xI z3), .int (xI z4)]) (rest := []) ⟨hx, hb, hml, hown, hts⟩ hl.1 (c_X2_change l D cA n ad en _ (by omega) hr_b1 (by omega) hr_4 (by omega) ((S.1 b1).1 : Int) ((S.1 b1).1 : Int) z3 z4 (by omega) (by omega) (by omega) (by omega)) k_X2_change u_ml_RX4_78 hK hN hP (by omega) hr_b1.1 rfl rfl rfl rfl (Nat.le_of_ble_eq_true rfl) ⟨Nat.le_of_ble_eq_true rfl, Nat.le_of_ble_eq_true rfl⟩ ⟨Nat.le_of_ble_eq_true rfl, Nat.le_of_ble_eq_true rfl⟩ dX4_part_45 hD hS hA (fun r1 en1 H locs hp1 hP hS => ?_)
        exact xe_i hx hb hrt hlocks hP hS ((Or.elim (Classical.em ((0 ≤ ((S.1 b1).1 : Int) ∧ ((S.1 b1).1 : Int) ≤ ((S.1 b1).1 : Int) ∧ ((S.1 b1).1 : Int) ≤ ((S.1 b1).1 : Int)) ∧ 0 ≤ z3 ∧ z3 ≤ z4 ∧ z4 ≤ ((4 : Nat) : Int))) (fun hPc => by unfold am_part; simp only [Int.toNat_natCast]; simp only [sp_told_n hS_t2]; rw [sp_if_f (by omega), sp_if_f (by omega)]; have q9 := x_fin hC h_b1 hp1 (by omega) (a := (S.1 b1).1) (e := (S.1 b1).1) (r0 := (((z4 - z3).toNat, fun q => sp_four (z3.toNat + q)) : xRow)) (by omega) (by omega) (by first | omega | (simp only []; omega)) (fun _ _ => rfl); exact ⟨q9.1, q9.2.1, (q9.2.2.mo (by omega) (by omega))⟩) (fun hPc => by unfold am_part; simp only [Int.toNat_natCast]; simp only [sp_told_n hS_t2]; rw [sp_if_f (by omega), sp_if_t (by omega)]; obtain ⟨q1, q2⟩ := x_finP hp1 hPc; subst q1; subst q2; exact ⟨rfl, hC, xO.rf⟩))) dX4_part_48
      · have hr_b1 : XR cA ad en (13 + 2 * b1) (S.1 b1).1 (S.1 b1).2 := hC.rb h_b1
        have hm_b1 := hr_b1.2.2.1
        have hT_t2 : XT cA ad en (21 + 3 * t2) (some r_t2) := by have q : XT cA ad en (21 + 3 * t2) (S.2.1 t2) := hC.rt h_t2; rw [hS_t2] at q; exact q
        have hr_t2 := hT_t2.2
        have hm_t2 := hr_t2.2.2.1
        refine lv_aload_n hx hb dX4_part_0 rfl (lv_at hl 0 rfl) ?_
        refine lv_iload_n hx hb dX4_part_1 rfl (lv_at hl 1 rfl) ?_
        refine xv_q (i := 0) (As := [.int (xI (b1 : Int))]) (rest := []) ⟨hx, hb, hml, hown, hts⟩ hl.1 (c_X4_builderOf_in l D cA n ad en (by omega) hC b1 (by omega)) k_X4_builderOf u_ml_RX4_52 hK hN hP (by omega) hC.1 rfl rfl rfl rfl (Nat.le_of_ble_eq_true rfl) ⟨Nat.le_of_ble_eq_true rfl, Nat.le_of_ble_eq_true rfl⟩ ⟨Nat.le_of_ble_eq_true rfl, Nat.le_of_ble_eq_true rfl⟩ dX4_part_2 ?_
        refine lv_astore (lv' := [(5, .ref (ad (13 + 2 * b1))), (0, .ref (ad 0)), (1, .int (xI (b1 : Int))), (2, .int (xI (t2 : Int))), (3, .int (xI z3)), (4, .int (xI z4))]) hx hb dX4_part_5 hl (by decide) rfl (fun ls hl => ?_)
        refine lv_aload_n hx hb dX4_part_7 rfl (lv_at hl 1 rfl) ?_
        refine lv_iload_n hx hb dX4_part_8 rfl (lv_at hl 3 rfl) ?_
        refine xv_q (i := 0) (As := [.int (xI (t2 : Int))]) (rest := []) ⟨hx, hb, hml, hown, hts⟩ hl.1 (c_X4_textOrFour_some l D cA n ad en (by omega) hC t2 (by omega) hS_t2) k_X4_textOrFour u_ml_RX4_75 hK hN hP (by omega) hC.1 rfl rfl rfl rfl (Nat.le_of_ble_eq_true rfl) ⟨Nat.le_of_ble_eq_true rfl, Nat.le_of_ble_eq_true rfl⟩ ⟨Nat.le_of_ble_eq_true rfl, Nat.le_of_ble_eq_true rfl⟩ dX4_part_9 ?_
        refine lv_astore (lv' := [(6, .ref (ad (21 + 3 * t2 + 1))), (5, .ref (ad (13 + 2 * b1))), (0, .ref (ad 0)), (1, .int (xI (b1 : Int))), (2, .int (xI (t2 : Int))), (3, .int (xI z3)), (4, .int (xI z4))]) hx hb dX4_part_12 hl (by decide) rfl (fun ls hl => ?_)
        refine lv_aload hx hb dX4_part_14 (lv_at hl 1 rfl) ?_
        refine lv_ifnull hx hb dX4_part_16 ?_
        refine lv_aload hx hb dX4_part_19 (lv_at hl 0 rfl) ?_
        refine lv_ifnonnull (tgt := 28) hx hb dX4_part_21 (by decide) ?_
        refine lv_aload hx hb dX4_part_28 (lv_at hl 1 rfl) ?_
        refine lv_aload hx hb dX4_part_30 (lv_at hl 1 rfl) ?_
        refine x_getn (T := TX2) (N := 2) hx hb hts uX2 hown hN hK hP (i := 13 + 2 * b1) (by omega) hr_b1.1 rfl 1 (by decide) (by simp only [xNest, List.mem_cons]; exact Or.inr (Or.inl rfl)) rfl dX4_part_32 ?_
        refine lv_aload hx hb dX4_part_35 (lv_at hl 1 rfl) ?_
        refine x_getn (T := TX2) (N := 2) hx hb hts uX2 hown hN hK hP (i := 13 + 2 * b1) (by omega) hr_b1.1 rfl 1 (by decide) (by simp only [xNest, List.mem_cons]; exact Or.inr (Or.inl rfl)) rfl dX4_part_37 ?_
        refine lv_aload hx hb dX4_part_40 (lv_at hl 0 rfl) ?_
        refine lv_iload_n hx hb dX4_part_42 rfl (lv_at hl 5 rfl) ?_
        refine lv_iload hx hb dX4_part_43 (lv_at hl 6 rfl) ?_
        refine xm_i (i := 13 + 2 * b1) (As := [.int (xI ((S.1 b1).1 : Int)), .int (xI ((S.1 b1).1 : Int)), .ref (ad (21 + 3 * t2 + 1)), .int (xI z3), .int (xI z4)]) (rest := []) ⟨hx, hb, hml, hown, hts⟩ hl.1 (c_X2_change l D cA n ad en _ (by omega) hr_b1 (by omega) hr_t2 (by omega) ((S.1 b1).1 : Int) ((S.1 b1).1 : Int) z3 z4 (by omega) (by omega) (by omega) (by omega)) k_X2_change u_ml_RX4_78 hK hN hP (by omega) hr_b1.1 rfl rfl rfl rfl (Nat.le_of_ble_eq_true rfl) ⟨Nat.le_of_ble_eq_true rfl, Nat.le_of_ble_eq_true rfl⟩ ⟨Nat.le_of_ble_eq_true rfl, Nat.le_of_ble_eq_true rfl⟩ dX4_part_45 hD hS hA (fun r2 en2 H locs hp2 hP hS => ?_)
        exact xe_i hx hb hrt hlocks hP hS ((Or.elim (Classical.em ((0 ≤ ((S.1 b1).1 : Int) ∧ ((S.1 b1).1 : Int) ≤ ((S.1 b1).1 : Int) ∧ ((S.1 b1).1 : Int) ≤ ((S.1 b1).1 : Int)) ∧ 0 ≤ z3 ∧ z3 ≤ z4 ∧ z4 ≤ (r_t2.1 : Int))) (fun hPc => by unfold am_part; simp only [Int.toNat_natCast]; simp only [sp_told_s hS_t2]; rw [sp_if_f (by omega), sp_if_f (by omega)]; have q9 := x_fin hC h_b1 hp2 (by omega) (a := (S.1 b1).1) (e := (S.1 b1).1) (r0 := (((z4 - z3).toNat, fun q => r_t2.2 (z3.toNat + q)) : xRow)) (by omega) (by omega) (by first | omega | (simp only []; omega)) (fun _ _ => rfl); exact ⟨q9.1, q9.2.1, (q9.2.2.mo (by omega) (by omega))⟩) (fun hPc => by unfold am_part; simp only [Int.toNat_natCast]; simp only [sp_told_s hS_t2]; rw [sp_if_f (by omega), sp_if_t (by omega)]; obtain ⟨q1, q2⟩ := x_finP hp2 hPc; subst q1; subst q2; exact ⟨rfl, hC, xO.rf⟩))) dX4_part_48
    · have hr_b1 : XR cA ad en (13 + 2 * b1) (S.1 b1).1 (S.1 b1).2 := hC.rb h_b1
      have hm_b1 := hr_b1.2.2.1
      refine lv_aload_n hx hb dX4_part_0 rfl (lv_at hl 0 rfl) ?_
      refine lv_iload_n hx hb dX4_part_1 rfl (lv_at hl 1 rfl) ?_
      refine xv_q (i := 0) (As := [.int (xI (b1 : Int))]) (rest := []) ⟨hx, hb, hml, hown, hts⟩ hl.1 (c_X4_builderOf_in l D cA n ad en (by omega) hC b1 (by omega)) k_X4_builderOf u_ml_RX4_52 hK hN hP (by omega) hC.1 rfl rfl rfl rfl (Nat.le_of_ble_eq_true rfl) ⟨Nat.le_of_ble_eq_true rfl, Nat.le_of_ble_eq_true rfl⟩ ⟨Nat.le_of_ble_eq_true rfl, Nat.le_of_ble_eq_true rfl⟩ dX4_part_2 ?_
      refine lv_astore (lv' := [(5, .ref (ad (13 + 2 * b1))), (0, .ref (ad 0)), (1, .int (xI (b1 : Int))), (2, .int (xI z2)), (3, .int (xI z3)), (4, .int (xI z4))]) hx hb dX4_part_5 hl (by decide) rfl (fun ls hl => ?_)
      refine lv_aload_n hx hb dX4_part_7 rfl (lv_at hl 1 rfl) ?_
      refine lv_iload_n hx hb dX4_part_8 rfl (lv_at hl 3 rfl) ?_
      refine xv_q (i := 0) (As := [.int (xI z2)]) (rest := []) ⟨hx, hb, hml, hown, hts⟩ hl.1 (c_X4_textOrFour_out l D cA n ad en (by omega) hC z2 (by omega) (by omega)) k_X4_textOrFour u_ml_RX4_75 hK hN hP (by omega) hC.1 rfl rfl rfl rfl (Nat.le_of_ble_eq_true rfl) ⟨Nat.le_of_ble_eq_true rfl, Nat.le_of_ble_eq_true rfl⟩ ⟨Nat.le_of_ble_eq_true rfl, Nat.le_of_ble_eq_true rfl⟩ dX4_part_9 ?_
      refine lv_astoreN (lv' := [(6, .null), (5, .ref (ad (13 + 2 * b1))), (0, .ref (ad 0)), (1, .int (xI (b1 : Int))), (2, .int (xI z2)), (3, .int (xI z3)), (4, .int (xI z4))]) hx hb dX4_part_12 hl (by decide) rfl (fun ls hl => ?_)
      refine lv_aload hx hb dX4_part_14 (lv_at hl 1 rfl) ?_
      refine lv_ifnull hx hb dX4_part_16 ?_
      refine lv_aloadN hx hb dX4_part_19 (lv_at hl 0 rfl) ?_
      refine lv_ifnonnullN hx hb dX4_part_21 ?_
      refine x_sipush hx hb dX4_part_24 (by decide +kernel) ?_
      exact xe_i hx hb hrt hlocks hP hS ((by unfold am_part; simp only [Int.toNat_natCast]; rw [sp_if_t (by omega)]; exact ⟨rfl, hC, xO.rf⟩)) dX4_part_27
  · rcases Classical.em (0 ≤ z2 ∧ z2 < 8) with hx_z2 | hx_z2
    · obtain ⟨t2, rfl⟩ : ∃ q : Nat, z2 = (q : Int) := ⟨z2.toNat, by omega⟩
      have h_t2 : t2 < 8 := by omega
      rcases hS_t2 : S.2.1 t2 with _ | r_t2
      · have hT_t2 : XT cA ad en (21 + 3 * t2) none := by have q : XT cA ad en (21 + 3 * t2) (S.2.1 t2) := hC.rt h_t2; rw [hS_t2] at q; exact q
        refine lv_aload_n hx hb dX4_part_0 rfl (lv_at hl 0 rfl) ?_
        refine lv_iload_n hx hb dX4_part_1 rfl (lv_at hl 1 rfl) ?_
        refine xv_q (i := 0) (As := [.int (xI z1)]) (rest := []) ⟨hx, hb, hml, hown, hts⟩ hl.1 (c_X4_builderOf_out l D cA n ad en (by omega) hC z1 (by omega) (by omega)) k_X4_builderOf u_ml_RX4_52 hK hN hP (by omega) hC.1 rfl rfl rfl rfl (Nat.le_of_ble_eq_true rfl) ⟨Nat.le_of_ble_eq_true rfl, Nat.le_of_ble_eq_true rfl⟩ ⟨Nat.le_of_ble_eq_true rfl, Nat.le_of_ble_eq_true rfl⟩ dX4_part_2 ?_
        refine lv_astoreN (lv' := [(5, .null), (0, .ref (ad 0)), (1, .int (xI z1)), (2, .int (xI (t2 : Int))), (3, .int (xI z3)), (4, .int (xI z4))]) hx hb dX4_part_5 hl (by decide) rfl (fun ls hl => ?_)
        refine lv_aload_n hx hb dX4_part_7 rfl (lv_at hl 1 rfl) ?_
        refine lv_iload_n hx hb dX4_part_8 rfl (lv_at hl 3 rfl) ?_
        have hr_4 := hC.r4
        refine xv_q (i := 0) (As := [.int (xI (t2 : Int))]) (rest := []) ⟨hx, hb, hml, hown, hts⟩ hl.1 (c_X4_textOrFour_none l D cA n ad en (by omega) hC t2 (by omega) hS_t2) k_X4_textOrFour u_ml_RX4_75 hK hN hP (by omega) hC.1 rfl rfl rfl rfl (Nat.le_of_ble_eq_true rfl) ⟨Nat.le_of_ble_eq_true rfl, Nat.le_of_ble_eq_true rfl⟩ ⟨Nat.le_of_ble_eq_true rfl, Nat.le_of_ble_eq_true rfl⟩ dX4_part_9 ?_
        refine lv_astore (lv' := [(6, .ref (ad 9)), (5, .null), (0, .ref (ad 0)), (1, .int (xI z1)), (2, .int (xI (t2 : Int))), (3, .int (xI z3)), (4, .int (xI z4))]) hx hb dX4_part_12 hl (by decide) rfl (fun ls hl => ?_)
        refine lv_aloadN hx hb dX4_part_14 (lv_at hl 1 rfl) ?_
        refine lv_ifnullN (tgt := 24) hx hb dX4_part_16 (by decide) ?_
        refine x_sipush hx hb dX4_part_24 (by decide +kernel) ?_
        exact xe_i hx hb hrt hlocks hP hS ((by unfold am_part; simp only [Int.toNat_natCast]; simp only [sp_told_n hS_t2]; rw [sp_if_t (by omega)]; exact ⟨rfl, hC, xO.rf⟩)) dX4_part_27
      · have hT_t2 : XT cA ad en (21 + 3 * t2) (some r_t2) := by have q : XT cA ad en (21 + 3 * t2) (S.2.1 t2) := hC.rt h_t2; rw [hS_t2] at q; exact q
        have hr_t2 := hT_t2.2
        have hm_t2 := hr_t2.2.2.1
        refine lv_aload_n hx hb dX4_part_0 rfl (lv_at hl 0 rfl) ?_
        refine lv_iload_n hx hb dX4_part_1 rfl (lv_at hl 1 rfl) ?_
        refine xv_q (i := 0) (As := [.int (xI z1)]) (rest := []) ⟨hx, hb, hml, hown, hts⟩ hl.1 (c_X4_builderOf_out l D cA n ad en (by omega) hC z1 (by omega) (by omega)) k_X4_builderOf u_ml_RX4_52 hK hN hP (by omega) hC.1 rfl rfl rfl rfl (Nat.le_of_ble_eq_true rfl) ⟨Nat.le_of_ble_eq_true rfl, Nat.le_of_ble_eq_true rfl⟩ ⟨Nat.le_of_ble_eq_true rfl, Nat.le_of_ble_eq_true rfl⟩ dX4_part_2 ?_
        refine lv_astoreN (lv' := [(5, .null), (0, .ref (ad 0)), (1, .int (xI z1)), (2, .int (xI (t2 : Int))), (3, .int (xI z3)), (4, .int (xI z4))]) hx hb dX4_part_5 hl (by decide) rfl (fun ls hl => ?_)
        refine lv_aload_n hx hb dX4_part_7 rfl (lv_at hl 1 rfl) ?_
        refine lv_iload_n hx hb dX4_part_8 rfl (lv_at hl 3 rfl) ?_
        refine xv_q (i := 0) (As := [.int (xI (t2 : Int))]) (rest := []) ⟨hx, hb, hml, hown, hts⟩ hl.1 (c_X4_textOrFour_some l D cA n ad en (by omega) hC t2 (by omega) hS_t2) k_X4_textOrFour u_ml_RX4_75 hK hN hP (by omega) hC.1 rfl rfl rfl rfl (Nat.le_of_ble_eq_true rfl) ⟨Nat.le_of_ble_eq_true rfl, Nat.le_of_ble_eq_true rfl⟩ ⟨Nat.le_of_ble_eq_true rfl, Nat.le_of_ble_eq_true rfl⟩ dX4_part_9 ?_
        refine lv_astore (lv' := [(6, .ref (ad (21 + 3 * t2 + 1))), (5, .null), (0, .ref (ad 0)), (1, .int (xI z1)), (2, .int (xI (t2 : Int))), (3, .int (xI z3)), (4, .int (xI z4))]) hx hb dX4_part_12 hl (by decide) rfl (fun ls hl => ?_)
        refine lv_aloadN hx hb dX4_part_14 (lv_at hl 1 rfl) ?_
        refine lv_ifnullN (tgt := 24) hx hb dX4_part_16 (by decide) ?_
        refine x_sipush hx hb dX4_part_24 (by decide +kernel) ?_
        exact xe_i hx hb hrt hlocks hP hS ((by unfold am_part; simp only [Int.toNat_natCast]; simp only [sp_told_s hS_t2]; rw [sp_if_t (by omega)]; exact ⟨rfl, hC, xO.rf⟩)) dX4_part_27
    · refine lv_aload_n hx hb dX4_part_0 rfl (lv_at hl 0 rfl) ?_
      refine lv_iload_n hx hb dX4_part_1 rfl (lv_at hl 1 rfl) ?_
      refine xv_q (i := 0) (As := [.int (xI z1)]) (rest := []) ⟨hx, hb, hml, hown, hts⟩ hl.1 (c_X4_builderOf_out l D cA n ad en (by omega) hC z1 (by omega) (by omega)) k_X4_builderOf u_ml_RX4_52 hK hN hP (by omega) hC.1 rfl rfl rfl rfl (Nat.le_of_ble_eq_true rfl) ⟨Nat.le_of_ble_eq_true rfl, Nat.le_of_ble_eq_true rfl⟩ ⟨Nat.le_of_ble_eq_true rfl, Nat.le_of_ble_eq_true rfl⟩ dX4_part_2 ?_
      refine lv_astoreN (lv' := [(5, .null), (0, .ref (ad 0)), (1, .int (xI z1)), (2, .int (xI z2)), (3, .int (xI z3)), (4, .int (xI z4))]) hx hb dX4_part_5 hl (by decide) rfl (fun ls hl => ?_)
      refine lv_aload_n hx hb dX4_part_7 rfl (lv_at hl 1 rfl) ?_
      refine lv_iload_n hx hb dX4_part_8 rfl (lv_at hl 3 rfl) ?_
      refine xv_q (i := 0) (As := [.int (xI z2)]) (rest := []) ⟨hx, hb, hml, hown, hts⟩ hl.1 (c_X4_textOrFour_out l D cA n ad en (by omega) hC z2 (by omega) (by omega)) k_X4_textOrFour u_ml_RX4_75 hK hN hP (by omega) hC.1 rfl rfl rfl rfl (Nat.le_of_ble_eq_true rfl) ⟨Nat.le_of_ble_eq_true rfl, Nat.le_of_ble_eq_true rfl⟩ ⟨Nat.le_of_ble_eq_true rfl, Nat.le_of_ble_eq_true rfl⟩ dX4_part_9 ?_
      refine lv_astoreN (lv' := [(6, .null), (5, .null), (0, .ref (ad 0)), (1, .int (xI z1)), (2, .int (xI z2)), (3, .int (xI z3)), (4, .int (xI z4))]) hx hb dX4_part_12 hl (by decide) rfl (fun ls hl => ?_)
      refine lv_aloadN hx hb dX4_part_14 (lv_at hl 1 rfl) ?_
      refine lv_ifnullN (tgt := 24) hx hb dX4_part_16 (by decide) ?_
      refine x_sipush hx hb dX4_part_24 (by decide +kernel) ?_
      exact xe_i hx hb hrt hlocks hP hS ((by unfold am_part; rw [sp_if_t (by omega)]; exact ⟨rfl, hC, xO.rf⟩)) dX4_part_27

set_option maxRecDepth 20000 in
theorem c_X4_number (l : Launch) (D : va_G) (cA : Nat → ClassId) (n : Nat) (ad : Nat → Nat) (en : Nat → va_E) (sz : Nat) (hn : 53 ≤ n) {S : xSt} (hC : CW cA ad en S) (z1 : Int) (hz1 : -2147483648 ≤ z1 ∧ z1 ≤ 2147483647) (z2 : Int) (hz2 : -9223372036854775808 ≤ z2 ∧ z2 ≤ 9223372036854775807) : Met l yX4_number (Cond.code yX4_number cX4_number 5 (some .int) :: xU) (xrm 4 91) (va_Pc [.ref (ad 0), .int (xI z1), .long (xL z2)] (xM D cA n ad en sz)) (va_Qi (fun r u => r = xI (am_number S z1 z2).1 ∧ CW cA ad u (am_number S z1 z2).2 ∧ xO 0 53 en u) (xE D n ad) (xA n ad sz)) 0 0 (xA n ad sz) := by
  refine xmet (by decide) (Nat.le_of_ble_eq_true rfl) (fun p e s mm args below meth c ls hx hb hrt hml hown hts hlocks hname hB hl => ?_)
  obtain ⟨⟨hP, hK, hN⟩, hsz, hDt⟩ := hB
  have hD : xD (xA n ad sz) n ad := xD_self hDt sz
  have hA : ∀ q : Nat, s.heap.size ≤ q → xA n ad sz q := fun q h => Or.inr (by rw [← hsz]; exact h)
  have hS : va_S (xA n ad sz) s.heap s.heap [] := va_S.rf
  have hown : s.vm.findClass RX4 = some mm.cls := hown
  have hl : lv_has ls 5 [(0, .ref (ad 0)), (1, .int (xI z1)), (2, .long (xL z2))] := hl
  rcases Classical.em (0 ≤ z1 ∧ z1 < 4) with hx_z1 | hx_z1
  · obtain ⟨b1, rfl⟩ : ∃ q : Nat, z1 = (q : Int) := ⟨z1.toNat, by omega⟩
    have h_b1 : b1 < 4 := by omega
    have hr_b1 : XR cA ad en (13 + 2 * b1) (S.1 b1).1 (S.1 b1).2 := hC.rb h_b1
    have hm_b1 := hr_b1.2.2.1
    refine lv_aload_n hx hb dX4_number_0 rfl (lv_at hl 0 rfl) ?_
    refine lv_iload_n hx hb dX4_number_1 rfl (lv_at hl 1 rfl) ?_
    refine xv_q (i := 0) (As := [.int (xI (b1 : Int))]) (rest := []) ⟨hx, hb, hml, hown, hts⟩ hl.1 (c_X4_builderOf_in l D cA n ad en (by omega) hC b1 (by omega)) k_X4_builderOf u_ml_RX4_52 hK hN hP (by omega) hC.1 rfl rfl rfl rfl (Nat.le_of_ble_eq_true rfl) ⟨Nat.le_of_ble_eq_true rfl, Nat.le_of_ble_eq_true rfl⟩ ⟨Nat.le_of_ble_eq_true rfl, Nat.le_of_ble_eq_true rfl⟩ dX4_number_2 ?_
    refine lv_astore (lv' := [(4, .ref (ad (13 + 2 * b1))), (0, .ref (ad 0)), (1, .int (xI (b1 : Int))), (2, .long (xL z2))]) hx hb dX4_number_5 hl (by decide) rfl (fun ls hl => ?_)
    refine lv_aload hx hb dX4_number_7 (lv_at hl 0 rfl) ?_
    refine lv_ifnonnull (tgt := 16) hx hb dX4_number_9 (by decide) ?_
    refine lv_aload hx hb dX4_number_16 (lv_at hl 0 rfl) ?_
    refine lv_aload hx hb dX4_number_18 (lv_at hl 0 rfl) ?_
    refine x_getn (T := TX2) (N := 2) hx hb hts uX2 hown hN hK hP (i := 13 + 2 * b1) (by omega) hr_b1.1 rfl 1 (by decide) (by simp only [xNest, List.mem_cons]; exact Or.inr (Or.inl rfl)) rfl dX4_number_20 ?_
    refine lv_aload_n hx hb dX4_number_23 rfl (lv_at hl 1 rfl) ?_
    refine lv_lload_n hx hb dX4_number_24 rfl (lv_at hl 3 rfl) ?_
    obtain ⟨m0, f0, hr0⟩ := hC.rs
    refine xm_q (i := 0) (As := [.long (xL z2)]) (rest := [.int (xI ((S.1 b1).1 : Int)), .ref (ad (13 + 2 * b1))]) ⟨hx, hb, hml, hown, hts⟩ hl.1 (c_X4_figures l D cA n ad en _ (by omega) hC hr0 z2 hz2) k_X4_figures u_ml_RX4_82 hK hN hP (by omega) hC.1 rfl rfl rfl rfl (Nat.le_of_ble_eq_true rfl) ⟨Nat.le_of_ble_eq_true rfl, Nat.le_of_ble_eq_true rfl⟩ ⟨Nat.le_of_ble_eq_true rfl, Nat.le_of_ble_eq_true rfl⟩ dX4_number_25 hD hS hA (fun r1 en1 H locs hp1 hP hS => ?_)
    obtain ⟨hr9, hrs, hos⟩ := hp1
    subst hr9
    have hC := hC.spare hos hrs
    have ho : xO 0 53 en en1 := hos.mo (by omega) (by omega)
    have hr_b1 : XR cA ad en1 (13 + 2 * b1) (S.1 b1).1 (S.1 b1).2 := hC.rb h_b1
    have hm_b1 := hr_b1.2.2.1
    have hmn := hrs.2.2.1
    refine xm_i (i := 13 + 2 * b1) (As := [.int (xI ((S.1 b1).1 : Int)), .ref (ad 11)]) (rest := []) ⟨hx, hb, hml, hown, hts⟩ hl.1 (c_X2_joinIn l D cA n ad en1 _ (by omega) hr_b1 (by omega) hrs (by omega) ((S.1 b1).1 : Int) (by omega)) k_X2_joinIn u_ml_RX4_67 hK hN hP (by omega) hr_b1.1 rfl rfl rfl rfl (Nat.le_of_ble_eq_true rfl) ⟨Nat.le_of_ble_eq_true rfl, Nat.le_of_ble_eq_true rfl⟩ ⟨Nat.le_of_ble_eq_true rfl, Nat.le_of_ble_eq_true rfl⟩ dX4_number_28 hD hS hA (fun r2 en2 H locs hp2 hP hS => ?_)
    exact xe_i hx hb hrt hlocks hP hS (by unfold am_number; simp only [Int.toNat_natCast]; rw [sp_if_f (by omega)]; have q9 := x_fin hC h_b1 hp2 (by omega) (a := (S.1 b1).1) (e := (S.1 b1).1) (r0 := ((sp_nn z2, sp_nf z2) : xRow)) (by omega) (by omega) (by first | omega | (simp only []; omega)) (fun t ht => by rw [show Int.toNat 0 + t = t from Nat.zero_add t]); exact ⟨q9.1, q9.2.1, (ho.tr (q9.2.2.mo (by omega) (by omega)))⟩) dX4_number_31
  · refine lv_aload_n hx hb dX4_number_0 rfl (lv_at hl 0 rfl) ?_
    refine lv_iload_n hx hb dX4_number_1 rfl (lv_at hl 1 rfl) ?_
    refine xv_q (i := 0) (As := [.int (xI z1)]) (rest := []) ⟨hx, hb, hml, hown, hts⟩ hl.1 (c_X4_builderOf_out l D cA n ad en (by omega) hC z1 (by omega) (by omega)) k_X4_builderOf u_ml_RX4_52 hK hN hP (by omega) hC.1 rfl rfl rfl rfl (Nat.le_of_ble_eq_true rfl) ⟨Nat.le_of_ble_eq_true rfl, Nat.le_of_ble_eq_true rfl⟩ ⟨Nat.le_of_ble_eq_true rfl, Nat.le_of_ble_eq_true rfl⟩ dX4_number_2 ?_
    refine lv_astoreN (lv' := [(4, .null), (0, .ref (ad 0)), (1, .int (xI z1)), (2, .long (xL z2))]) hx hb dX4_number_5 hl (by decide) rfl (fun ls hl => ?_)
    refine lv_aloadN hx hb dX4_number_7 (lv_at hl 0 rfl) ?_
    refine lv_ifnonnullN hx hb dX4_number_9 ?_
    refine x_sipush hx hb dX4_number_12 (by decide +kernel) ?_
    exact xe_i hx hb hrt hlocks hP hS ((by unfold am_number; rw [sp_if_t (by omega)]; exact ⟨rfl, hC, xO.rf⟩)) dX4_number_15

set_option maxRecDepth 20000 in
theorem c_X4_insert (l : Launch) (D : va_G) (cA : Nat → ClassId) (n : Nat) (ad : Nat → Nat) (en : Nat → va_E) (sz : Nat) (hn : 53 ≤ n) {S : xSt} (hC : CW cA ad en S) (z1 : Int) (hz1 : -2147483648 ≤ z1 ∧ z1 ≤ 2147483647) (z2 : Int) (hz2 : -2147483648 ≤ z2 ∧ z2 ≤ 2147483647) (z3 : Int) (hz3 : -2147483648 ≤ z3 ∧ z3 ≤ 2147483647) : Met l yX4_insert (Cond.code yX4_insert cX4_insert 6 (some .int) :: xU) (xrm 3 75) (va_Pc [.ref (ad 0), .int (xI z1), .int (xI z2), .int (xI z3)] (xM D cA n ad en sz)) (va_Qi (fun r u => r = xI (am_insert S z1 z2 z3).1 ∧ CW cA ad u (am_insert S z1 z2 z3).2 ∧ xO 0 53 en u) (xE D n ad) (xA n ad sz)) 0 0 (xA n ad sz) := by
  refine xmet (by decide) (Nat.le_of_ble_eq_true rfl) (fun p e s mm args below meth c ls hx hb hrt hml hown hts hlocks hname hB hl => ?_)
  obtain ⟨⟨hP, hK, hN⟩, hsz, hDt⟩ := hB
  have hD : xD (xA n ad sz) n ad := xD_self hDt sz
  have hA : ∀ q : Nat, s.heap.size ≤ q → xA n ad sz q := fun q h => Or.inr (by rw [← hsz]; exact h)
  have hS : va_S (xA n ad sz) s.heap s.heap [] := va_S.rf
  have hown : s.vm.findClass RX4 = some mm.cls := hown
  have hl : lv_has ls 6 [(0, .ref (ad 0)), (1, .int (xI z1)), (2, .int (xI z2)), (3, .int (xI z3))] := hl
  rcases Classical.em (0 ≤ z1 ∧ z1 < 4) with hx_z1 | hx_z1
  · obtain ⟨b1, rfl⟩ : ∃ q : Nat, z1 = (q : Int) := ⟨z1.toNat, by omega⟩
    have h_b1 : b1 < 4 := by omega
    rcases Classical.em (0 ≤ z3 ∧ z3 < 8) with hx_z3 | hx_z3
    · obtain ⟨t3, rfl⟩ : ∃ q : Nat, z3 = (q : Int) := ⟨z3.toNat, by omega⟩
      have h_t3 : t3 < 8 := by omega
      rcases hS_t3 : S.2.1 t3 with _ | r_t3
      · have hr_b1 : XR cA ad en (13 + 2 * b1) (S.1 b1).1 (S.1 b1).2 := hC.rb h_b1
        have hm_b1 := hr_b1.2.2.1
        have hT_t3 : XT cA ad en (21 + 3 * t3) none := by have q : XT cA ad en (21 + 3 * t3) (S.2.1 t3) := hC.rt h_t3; rw [hS_t3] at q; exact q
        refine lv_aload_n hx hb dX4_insert_0 rfl (lv_at hl 0 rfl) ?_
        refine lv_iload_n hx hb dX4_insert_1 rfl (lv_at hl 1 rfl) ?_
        refine xv_q (i := 0) (As := [.int (xI (b1 : Int))]) (rest := []) ⟨hx, hb, hml, hown, hts⟩ hl.1 (c_X4_builderOf_in l D cA n ad en (by omega) hC b1 (by omega)) k_X4_builderOf u_ml_RX4_52 hK hN hP (by omega) hC.1 rfl rfl rfl rfl (Nat.le_of_ble_eq_true rfl) ⟨Nat.le_of_ble_eq_true rfl, Nat.le_of_ble_eq_true rfl⟩ ⟨Nat.le_of_ble_eq_true rfl, Nat.le_of_ble_eq_true rfl⟩ dX4_insert_2 ?_
        refine lv_astore (lv' := [(4, .ref (ad (13 + 2 * b1))), (0, .ref (ad 0)), (1, .int (xI (b1 : Int))), (2, .int (xI z2)), (3, .int (xI (t3 : Int)))]) hx hb dX4_insert_5 hl (by decide) rfl (fun ls hl => ?_)
        refine lv_aload_n hx hb dX4_insert_7 rfl (lv_at hl 1 rfl) ?_
        refine lv_iload_n hx hb dX4_insert_8 rfl (lv_at hl 4 rfl) ?_
        have hr_4 := hC.r4
        refine xv_q (i := 0) (As := [.int (xI (t3 : Int))]) (rest := []) ⟨hx, hb, hml, hown, hts⟩ hl.1 (c_X4_textOrFour_none l D cA n ad en (by omega) hC t3 (by omega) hS_t3) k_X4_textOrFour u_ml_RX4_75 hK hN hP (by omega) hC.1 rfl rfl rfl rfl (Nat.le_of_ble_eq_true rfl) ⟨Nat.le_of_ble_eq_true rfl, Nat.le_of_ble_eq_true rfl⟩ ⟨Nat.le_of_ble_eq_true rfl, Nat.le_of_ble_eq_true rfl⟩ dX4_insert_9 ?_
        refine lv_astore (lv' := [(5, .ref (ad 9)), (4, .ref (ad (13 + 2 * b1))), (0, .ref (ad 0)), (1, .int (xI (b1 : Int))), (2, .int (xI z2)), (3, .int (xI (t3 : Int)))]) hx hb dX4_insert_12 hl (by decide) rfl (fun ls hl => ?_)
        refine lv_aload hx hb dX4_insert_14 (lv_at hl 1 rfl) ?_
        refine lv_ifnull hx hb dX4_insert_16 ?_
        refine lv_aload hx hb dX4_insert_19 (lv_at hl 0 rfl) ?_
        refine lv_ifnonnull (tgt := 28) hx hb dX4_insert_21 (by decide) ?_
        refine lv_aload hx hb dX4_insert_28 (lv_at hl 1 rfl) ?_
        refine lv_iload_n hx hb dX4_insert_30 rfl (lv_at hl 4 rfl) ?_
        refine lv_aload hx hb dX4_insert_31 (lv_at hl 0 rfl) ?_
        refine xm_i (i := 13 + 2 * b1) (As := [.int (xI z2), .ref (ad 9)]) (rest := []) ⟨hx, hb, hml, hown, hts⟩ hl.1 (c_X2_joinIn l D cA n ad en _ (by omega) hr_b1 (by omega) hr_4 (by omega) z2 (by omega)) k_X2_joinIn u_ml_RX4_67 hK hN hP (by omega) hr_b1.1 rfl rfl rfl rfl (Nat.le_of_ble_eq_true rfl) ⟨Nat.le_of_ble_eq_true rfl, Nat.le_of_ble_eq_true rfl⟩ ⟨Nat.le_of_ble_eq_true rfl, Nat.le_of_ble_eq_true rfl⟩ dX4_insert_33 hD hS hA (fun r1 en1 H locs hp1 hP hS => ?_)
        exact xe_i hx hb hrt hlocks hP hS ((Or.elim (Classical.em ((0 ≤ z2 ∧ z2 ≤ z2 ∧ z2 ≤ ((S.1 b1).1 : Int)) ∧ 0 ≤ (0 : Int) ∧ (0 : Int) ≤ ((4 : Nat) : Int) ∧ ((4 : Nat) : Int) ≤ ((4 : Nat) : Int))) (fun hPc => by unfold am_insert; simp only [Int.toNat_natCast]; simp only [sp_told_n hS_t3]; rw [sp_if_f (by omega), sp_if_f (by omega)]; have q9 := x_fin hC h_b1 hp1 (by omega) (a := z2.toNat) (e := z2.toNat) (r0 := ((4, sp_four) : xRow)) (by omega) (by omega) (by first | omega | (simp only []; omega)) (fun t ht => by rw [show Int.toNat 0 + t = t from Nat.zero_add t]); exact ⟨q9.1, q9.2.1, (q9.2.2.mo (by omega) (by omega))⟩) (fun hPc => by unfold am_insert; simp only [Int.toNat_natCast]; simp only [sp_told_n hS_t3]; rw [sp_if_f (by omega), sp_if_t (by omega)]; obtain ⟨q1, q2⟩ := x_finP hp1 hPc; subst q1; subst q2; exact ⟨rfl, hC, xO.rf⟩))) dX4_insert_36
      · have hr_b1 : XR cA ad en (13 + 2 * b1) (S.1 b1).1 (S.1 b1).2 := hC.rb h_b1
        have hm_b1 := hr_b1.2.2.1
        have hT_t3 : XT cA ad en (21 + 3 * t3) (some r_t3) := by have q : XT cA ad en (21 + 3 * t3) (S.2.1 t3) := hC.rt h_t3; rw [hS_t3] at q; exact q
        have hr_t3 := hT_t3.2
        have hm_t3 := hr_t3.2.2.1
        refine lv_aload_n hx hb dX4_insert_0 rfl (lv_at hl 0 rfl) ?_
        refine lv_iload_n hx hb dX4_insert_1 rfl (lv_at hl 1 rfl) ?_
        refine xv_q (i := 0) (As := [.int (xI (b1 : Int))]) (rest := []) ⟨hx, hb, hml, hown, hts⟩ hl.1 (c_X4_builderOf_in l D cA n ad en (by omega) hC b1 (by omega)) k_X4_builderOf u_ml_RX4_52 hK hN hP (by omega) hC.1 rfl rfl rfl rfl (Nat.le_of_ble_eq_true rfl) ⟨Nat.le_of_ble_eq_true rfl, Nat.le_of_ble_eq_true rfl⟩ ⟨Nat.le_of_ble_eq_true rfl, Nat.le_of_ble_eq_true rfl⟩ dX4_insert_2 ?_
        refine lv_astore (lv' := [(4, .ref (ad (13 + 2 * b1))), (0, .ref (ad 0)), (1, .int (xI (b1 : Int))), (2, .int (xI z2)), (3, .int (xI (t3 : Int)))]) hx hb dX4_insert_5 hl (by decide) rfl (fun ls hl => ?_)
        refine lv_aload_n hx hb dX4_insert_7 rfl (lv_at hl 1 rfl) ?_
        refine lv_iload_n hx hb dX4_insert_8 rfl (lv_at hl 4 rfl) ?_
        refine xv_q (i := 0) (As := [.int (xI (t3 : Int))]) (rest := []) ⟨hx, hb, hml, hown, hts⟩ hl.1 (c_X4_textOrFour_some l D cA n ad en (by omega) hC t3 (by omega) hS_t3) k_X4_textOrFour u_ml_RX4_75 hK hN hP (by omega) hC.1 rfl rfl rfl rfl (Nat.le_of_ble_eq_true rfl) ⟨Nat.le_of_ble_eq_true rfl, Nat.le_of_ble_eq_true rfl⟩ ⟨Nat.le_of_ble_eq_true rfl, Nat.le_of_ble_eq_true rfl⟩ dX4_insert_9 ?_
        refine lv_astore (lv' := [(5, .ref (ad (21 + 3 * t3 + 1))), (4, .ref (ad (13 + 2 * b1))), (0, .ref (ad 0)), (1, .int (xI (b1 : Int))), (2, .int (xI z2)), (3, .int (xI (t3 : Int)))]) hx hb dX4_insert_12 hl (by decide) rfl (fun ls hl => ?_)
        refine lv_aload hx hb dX4_insert_14 (lv_at hl 1 rfl) ?_
        refine lv_ifnull hx hb dX4_insert_16 ?_
        refine lv_aload hx hb dX4_insert_19 (lv_at hl 0 rfl) ?_
        refine lv_ifnonnull (tgt := 28) hx hb dX4_insert_21 (by decide) ?_
        refine lv_aload hx hb dX4_insert_28 (lv_at hl 1 rfl) ?_
        refine lv_iload_n hx hb dX4_insert_30 rfl (lv_at hl 4 rfl) ?_
        refine lv_aload hx hb dX4_insert_31 (lv_at hl 0 rfl) ?_
        refine xm_i (i := 13 + 2 * b1) (As := [.int (xI z2), .ref (ad (21 + 3 * t3 + 1))]) (rest := []) ⟨hx, hb, hml, hown, hts⟩ hl.1 (c_X2_joinIn l D cA n ad en _ (by omega) hr_b1 (by omega) hr_t3 (by omega) z2 (by omega)) k_X2_joinIn u_ml_RX4_67 hK hN hP (by omega) hr_b1.1 rfl rfl rfl rfl (Nat.le_of_ble_eq_true rfl) ⟨Nat.le_of_ble_eq_true rfl, Nat.le_of_ble_eq_true rfl⟩ ⟨Nat.le_of_ble_eq_true rfl, Nat.le_of_ble_eq_true rfl⟩ dX4_insert_33 hD hS hA (fun r2 en2 H locs hp2 hP hS => ?_)
        exact xe_i hx hb hrt hlocks hP hS ((Or.elim (Classical.em ((0 ≤ z2 ∧ z2 ≤ z2 ∧ z2 ≤ ((S.1 b1).1 : Int)) ∧ 0 ≤ (0 : Int) ∧ (0 : Int) ≤ (r_t3.1 : Int) ∧ (r_t3.1 : Int) ≤ (r_t3.1 : Int))) (fun hPc => by unfold am_insert; simp only [Int.toNat_natCast]; simp only [sp_told_s hS_t3]; rw [sp_if_f (by omega), sp_if_f (by omega)]; have q9 := x_fin hC h_b1 hp2 (by omega) (a := z2.toNat) (e := z2.toNat) (r0 := r_t3) (by omega) (by omega) (by first | omega | (simp only []; omega)) (fun t ht => by rw [show Int.toNat 0 + t = t from Nat.zero_add t]); exact ⟨q9.1, q9.2.1, (q9.2.2.mo (by omega) (by omega))⟩) (fun hPc => by unfold am_insert; simp only [Int.toNat_natCast]; simp only [sp_told_s hS_t3]; rw [sp_if_f (by omega), sp_if_t (by omega)]; obtain ⟨q1, q2⟩ := x_finP hp2 hPc; subst q1; subst q2; exact ⟨rfl, hC, xO.rf⟩))) dX4_insert_36
    · have hr_b1 : XR cA ad en (13 + 2 * b1) (S.1 b1).1 (S.1 b1).2 := hC.rb h_b1
      have hm_b1 := hr_b1.2.2.1
      refine lv_aload_n hx hb dX4_insert_0 rfl (lv_at hl 0 rfl) ?_
      refine lv_iload_n hx hb dX4_insert_1 rfl (lv_at hl 1 rfl) ?_
      refine xv_q (i := 0) (As := [.int (xI (b1 : Int))]) (rest := []) ⟨hx, hb, hml, hown, hts⟩ hl.1 (c_X4_builderOf_in l D cA n ad en (by omega) hC b1 (by omega)) k_X4_builderOf u_ml_RX4_52 hK hN hP (by omega) hC.1 rfl rfl rfl rfl (Nat.le_of_ble_eq_true rfl) ⟨Nat.le_of_ble_eq_true rfl, Nat.le_of_ble_eq_true rfl⟩ ⟨Nat.le_of_ble_eq_true rfl, Nat.le_of_ble_eq_true rfl⟩ dX4_insert_2 ?_
      refine lv_astore (lv' := [(4, .ref (ad (13 + 2 * b1))), (0, .ref (ad 0)), (1, .int (xI (b1 : Int))), (2, .int (xI z2)), (3, .int (xI z3))]) hx hb dX4_insert_5 hl (by decide) rfl (fun ls hl => ?_)
      refine lv_aload_n hx hb dX4_insert_7 rfl (lv_at hl 1 rfl) ?_
      refine lv_iload_n hx hb dX4_insert_8 rfl (lv_at hl 4 rfl) ?_
      refine xv_q (i := 0) (As := [.int (xI z3)]) (rest := []) ⟨hx, hb, hml, hown, hts⟩ hl.1 (c_X4_textOrFour_out l D cA n ad en (by omega) hC z3 (by omega) (by omega)) k_X4_textOrFour u_ml_RX4_75 hK hN hP (by omega) hC.1 rfl rfl rfl rfl (Nat.le_of_ble_eq_true rfl) ⟨Nat.le_of_ble_eq_true rfl, Nat.le_of_ble_eq_true rfl⟩ ⟨Nat.le_of_ble_eq_true rfl, Nat.le_of_ble_eq_true rfl⟩ dX4_insert_9 ?_
      refine lv_astoreN (lv' := [(5, .null), (4, .ref (ad (13 + 2 * b1))), (0, .ref (ad 0)), (1, .int (xI (b1 : Int))), (2, .int (xI z2)), (3, .int (xI z3))]) hx hb dX4_insert_12 hl (by decide) rfl (fun ls hl => ?_)
      refine lv_aload hx hb dX4_insert_14 (lv_at hl 1 rfl) ?_
      refine lv_ifnull hx hb dX4_insert_16 ?_
      refine lv_aloadN hx hb dX4_insert_19 (lv_at hl 0 rfl) ?_
      refine lv_ifnonnullN hx hb dX4_insert_21 ?_
      refine x_sipush hx hb dX4_insert_24 (by decide +kernel) ?_
      exact xe_i hx hb hrt hlocks hP hS ((by unfold am_insert; simp only [Int.toNat_natCast]; rw [sp_if_t (by omega)]; exact ⟨rfl, hC, xO.rf⟩)) dX4_insert_27
  · rcases Classical.em (0 ≤ z3 ∧ z3 < 8) with hx_z3 | hx_z3
    · obtain ⟨t3, rfl⟩ : ∃ q : Nat, z3 = (q : Int) := ⟨z3.toNat, by omega⟩
      have h_t3 : t3 < 8 := by omega
      rcases hS_t3 : S.2.1 t3 with _ | r_t3
      · have hT_t3 : XT cA ad en (21 + 3 * t3) none := by have q : XT cA ad en (21 + 3 * t3) (S.2.1 t3) := hC.rt h_t3; rw [hS_t3] at q; exact q
        refine lv_aload_n hx hb dX4_insert_0 rfl (lv_at hl 0 rfl) ?_
        refine lv_iload_n hx hb dX4_insert_1 rfl (lv_at hl 1 rfl) ?_
        refine xv_q (i := 0) (As := [.int (xI z1)]) (rest := []) ⟨hx, hb, hml, hown, hts⟩ hl.1 (c_X4_builderOf_out l D cA n ad en (by omega) hC z1 (by omega) (by omega)) k_X4_builderOf u_ml_RX4_52 hK hN hP (by omega) hC.1 rfl rfl rfl rfl (Nat.le_of_ble_eq_true rfl) ⟨Nat.le_of_ble_eq_true rfl, Nat.le_of_ble_eq_true rfl⟩ ⟨Nat.le_of_ble_eq_true rfl, Nat.le_of_ble_eq_true rfl⟩ dX4_insert_2 ?_
        refine lv_astoreN (lv' := [(4, .null), (0, .ref (ad 0)), (1, .int (xI z1)), (2, .int (xI z2)), (3, .int (xI (t3 : Int)))]) hx hb dX4_insert_5 hl (by decide) rfl (fun ls hl => ?_)
        refine lv_aload_n hx hb dX4_insert_7 rfl (lv_at hl 1 rfl) ?_
        refine lv_iload_n hx hb dX4_insert_8 rfl (lv_at hl 4 rfl) ?_
        have hr_4 := hC.r4
        refine xv_q (i := 0) (As := [.int (xI (t3 : Int))]) (rest := []) ⟨hx, hb, hml, hown, hts⟩ hl.1 (c_X4_textOrFour_none l D cA n ad en (by omega) hC t3 (by omega) hS_t3) k_X4_textOrFour u_ml_RX4_75 hK hN hP (by omega) hC.1 rfl rfl rfl rfl (Nat.le_of_ble_eq_true rfl) ⟨Nat.le_of_ble_eq_true rfl, Nat.le_of_ble_eq_true rfl⟩ ⟨Nat.le_of_ble_eq_true rfl, Nat.le_of_ble_eq_true rfl⟩ dX4_insert_9 ?_
        refine lv_astore (lv' := [(5, .ref (ad 9)), (4, .null), (0, .ref (ad 0)), (1, .int (xI z1)), (2, .int (xI z2)), (3, .int (xI (t3 : Int)))]) hx hb dX4_insert_12 hl (by decide) rfl (fun ls hl => ?_)
        refine lv_aloadN hx hb dX4_insert_14 (lv_at hl 1 rfl) ?_
        refine lv_ifnullN (tgt := 24) hx hb dX4_insert_16 (by decide) ?_
        refine x_sipush hx hb dX4_insert_24 (by decide +kernel) ?_
        exact xe_i hx hb hrt hlocks hP hS ((by unfold am_insert; simp only [Int.toNat_natCast]; simp only [sp_told_n hS_t3]; rw [sp_if_t (by omega)]; exact ⟨rfl, hC, xO.rf⟩)) dX4_insert_27
      · have hT_t3 : XT cA ad en (21 + 3 * t3) (some r_t3) := by have q : XT cA ad en (21 + 3 * t3) (S.2.1 t3) := hC.rt h_t3; rw [hS_t3] at q; exact q
        have hr_t3 := hT_t3.2
        have hm_t3 := hr_t3.2.2.1
        refine lv_aload_n hx hb dX4_insert_0 rfl (lv_at hl 0 rfl) ?_
        refine lv_iload_n hx hb dX4_insert_1 rfl (lv_at hl 1 rfl) ?_
        refine xv_q (i := 0) (As := [.int (xI z1)]) (rest := []) ⟨hx, hb, hml, hown, hts⟩ hl.1 (c_X4_builderOf_out l D cA n ad en (by omega) hC z1 (by omega) (by omega)) k_X4_builderOf u_ml_RX4_52 hK hN hP (by omega) hC.1 rfl rfl rfl rfl (Nat.le_of_ble_eq_true rfl) ⟨Nat.le_of_ble_eq_true rfl, Nat.le_of_ble_eq_true rfl⟩ ⟨Nat.le_of_ble_eq_true rfl, Nat.le_of_ble_eq_true rfl⟩ dX4_insert_2 ?_
        refine lv_astoreN (lv' := [(4, .null), (0, .ref (ad 0)), (1, .int (xI z1)), (2, .int (xI z2)), (3, .int (xI (t3 : Int)))]) hx hb dX4_insert_5 hl (by decide) rfl (fun ls hl => ?_)
        refine lv_aload_n hx hb dX4_insert_7 rfl (lv_at hl 1 rfl) ?_
        refine lv_iload_n hx hb dX4_insert_8 rfl (lv_at hl 4 rfl) ?_
        refine xv_q (i := 0) (As := [.int (xI (t3 : Int))]) (rest := []) ⟨hx, hb, hml, hown, hts⟩ hl.1 (c_X4_textOrFour_some l D cA n ad en (by omega) hC t3 (by omega) hS_t3) k_X4_textOrFour u_ml_RX4_75 hK hN hP (by omega) hC.1 rfl rfl rfl rfl (Nat.le_of_ble_eq_true rfl) ⟨Nat.le_of_ble_eq_true rfl, Nat.le_of_ble_eq_true rfl⟩ ⟨Nat.le_of_ble_eq_true rfl, Nat.le_of_ble_eq_true rfl⟩ dX4_insert_9 ?_
        refine lv_astore (lv' := [(5, .ref (ad (21 + 3 * t3 + 1))), (4, .null), (0, .ref (ad 0)), (1, .int (xI z1)), (2, .int (xI z2)), (3, .int (xI (t3 : Int)))]) hx hb dX4_insert_12 hl (by decide) rfl (fun ls hl => ?_)
        refine lv_aloadN hx hb dX4_insert_14 (lv_at hl 1 rfl) ?_
        refine lv_ifnullN (tgt := 24) hx hb dX4_insert_16 (by decide) ?_
        refine x_sipush hx hb dX4_insert_24 (by decide +kernel) ?_
        exact xe_i hx hb hrt hlocks hP hS ((by unfold am_insert; simp only [Int.toNat_natCast]; simp only [sp_told_s hS_t3]; rw [sp_if_t (by omega)]; exact ⟨rfl, hC, xO.rf⟩)) dX4_insert_27
    · refine lv_aload_n hx hb dX4_insert_0 rfl (lv_at hl 0 rfl) ?_
      refine lv_iload_n hx hb dX4_insert_1 rfl (lv_at hl 1 rfl) ?_
      refine xv_q (i := 0) (As := [.int (xI z1)]) (rest := []) ⟨hx, hb, hml, hown, hts⟩ hl.1 (c_X4_builderOf_out l D cA n ad en (by omega) hC z1 (by omega) (by omega)) k_X4_builderOf u_ml_RX4_52 hK hN hP (by omega) hC.1 rfl rfl rfl rfl (Nat.le_of_ble_eq_true rfl) ⟨Nat.le_of_ble_eq_true rfl, Nat.le_of_ble_eq_true rfl⟩ ⟨Nat.le_of_ble_eq_true rfl, Nat.le_of_ble_eq_true rfl⟩ dX4_insert_2 ?_
      refine lv_astoreN (lv' := [(4, .null), (0, .ref (ad 0)), (1, .int (xI z1)), (2, .int (xI z2)), (3, .int (xI z3))]) hx hb dX4_insert_5 hl (by decide) rfl (fun ls hl => ?_)
      refine lv_aload_n hx hb dX4_insert_7 rfl (lv_at hl 1 rfl) ?_
      refine lv_iload_n hx hb dX4_insert_8 rfl (lv_at hl 4 rfl) ?_
      refine xv_q (i := 0) (As := [.int (xI z3)]) (rest := []) ⟨hx, hb, hml, hown, hts⟩ hl.1 (c_X4_textOrFour_out l D cA n ad en (by omega) hC z3 (by omega) (by omega)) k_X4_textOrFour u_ml_RX4_75 hK hN hP (by omega) hC.1 rfl rfl rfl rfl (Nat.le_of_ble_eq_true rfl) ⟨Nat.le_of_ble_eq_true rfl, Nat.le_of_ble_eq_true rfl⟩ ⟨Nat.le_of_ble_eq_true rfl, Nat.le_of_ble_eq_true rfl⟩ dX4_insert_9 ?_
      refine lv_astoreN (lv' := [(5, .null), (4, .null), (0, .ref (ad 0)), (1, .int (xI z1)), (2, .int (xI z2)), (3, .int (xI z3))]) hx hb dX4_insert_12 hl (by decide) rfl (fun ls hl => ?_)
      refine lv_aloadN hx hb dX4_insert_14 (lv_at hl 1 rfl) ?_
      refine lv_ifnullN (tgt := 24) hx hb dX4_insert_16 (by decide) ?_
      refine x_sipush hx hb dX4_insert_24 (by decide +kernel) ?_
      exact xe_i hx hb hrt hlocks hP hS ((by unfold am_insert; rw [sp_if_t (by omega)]; exact ⟨rfl, hC, xO.rf⟩)) dX4_insert_27

set_option maxRecDepth 20000 in
theorem c_X4_insertPart (l : Launch) (D : va_G) (cA : Nat → ClassId) (n : Nat) (ad : Nat → Nat) (en : Nat → va_E) (sz : Nat) (hn : 53 ≤ n) {S : xSt} (hC : CW cA ad en S) (z1 : Int) (hz1 : -2147483648 ≤ z1 ∧ z1 ≤ 2147483647) (z2 : Int) (hz2 : -2147483648 ≤ z2 ∧ z2 ≤ 2147483647) (z3 : Int) (hz3 : -2147483648 ≤ z3 ∧ z3 ≤ 2147483647) (z4 : Int) (hz4 : -2147483648 ≤ z4 ∧ z4 ≤ 2147483647) (z5 : Int) (hz5 : -2147483648 ≤ z5 ∧ z5 ≤ 2147483647) : Met l yX4_insertPart (Cond.code yX4_insertPart cX4_insertPart 8 (some .int) :: xU) (xrm 2 53) (va_Pc [.ref (ad 0), .int (xI z1), .int (xI z2), .int (xI z3), .int (xI z4), .int (xI z5)] (xM D cA n ad en sz)) (va_Qi (fun r u => r = xI (am_insertPart S z1 z2 z3 z4 z5).1 ∧ CW cA ad u (am_insertPart S z1 z2 z3 z4 z5).2 ∧ xO 0 53 en u) (xE D n ad) (xA n ad sz)) 0 0 (xA n ad sz) := by
  refine xmet (by decide) (Nat.le_of_ble_eq_true rfl) (fun p e s mm args below meth c ls hx hb hrt hml hown hts hlocks hname hB hl => ?_)
  obtain ⟨⟨hP, hK, hN⟩, hsz, hDt⟩ := hB
  have hD : xD (xA n ad sz) n ad := xD_self hDt sz
  have hA : ∀ q : Nat, s.heap.size ≤ q → xA n ad sz q := fun q h => Or.inr (by rw [← hsz]; exact h)
  have hS : va_S (xA n ad sz) s.heap s.heap [] := va_S.rf
  have hown : s.vm.findClass RX4 = some mm.cls := hown
  have hl : lv_has ls 8 [(0, .ref (ad 0)), (1, .int (xI z1)), (2, .int (xI z2)), (3, .int (xI z3)), (4, .int (xI z4)), (5, .int (xI z5))] := hl
  rcases Classical.em (0 ≤ z1 ∧ z1 < 4) with hx_z1 | hx_z1
  · obtain ⟨b1, rfl⟩ : ∃ q : Nat, z1 = (q : Int) := ⟨z1.toNat, by omega⟩
    have h_b1 : b1 < 4 := by omega
    rcases Classical.em (0 ≤ z3 ∧ z3 < 8) with hx_z3 | hx_z3
    · obtain ⟨t3, rfl⟩ : ∃ q : Nat, z3 = (q : Int) := ⟨z3.toNat, by omega⟩
      have h_t3 : t3 < 8 := by omega
      rcases hS_t3 : S.2.1 t3 with _ | r_t3
      · have hr_b1 : XR cA ad en (13 + 2 * b1) (S.1 b1).1 (S.1 b1).2 := hC.rb h_b1
        have hm_b1 := hr_b1.2.2.1
        have hT_t3 : XT cA ad en (21 + 3 * t3) none := by have q : XT cA ad en (21 + 3 * t3) (S.2.1 t3) := hC.rt h_t3; rw [hS_t3] at q; exact q
        refine lv_aload_n hx hb dX4_insertPart_0 rfl (lv_at hl 0 rfl) ?_
        refine lv_iload_n hx hb dX4_insertPart_1 rfl (lv_at hl 1 rfl) ?_
        refine xv_q (i := 0) (As := [.int (xI (b1 : Int))]) (rest := []) ⟨hx, hb, hml, hown, hts⟩ hl.1 (c_X4_builderOf_in l D cA n ad en (by omega) hC b1 (by omega)) k_X4_builderOf u_ml_RX4_52 hK hN hP (by omega) hC.1 rfl rfl rfl rfl (Nat.le_of_ble_eq_true rfl) ⟨Nat.le_of_ble_eq_true rfl, Nat.le_of_ble_eq_true rfl⟩ ⟨Nat.le_of_ble_eq_true rfl, Nat.le_of_ble_eq_true rfl⟩ dX4_insertPart_2 ?_
        refine lv_astore (lv' := [(6, .ref (ad (13 + 2 * b1))), (0, .ref (ad 0)), (1, .int (xI (b1 : Int))), (2, .int (xI z2)), (3, .int (xI (t3 : Int))), (4, .int (xI z4)), (5, .int (xI z5))]) hx hb dX4_insertPart_5 hl (by decide) rfl (fun ls hl => ?_)
        refine lv_aload_n hx hb dX4_insertPart_7 rfl (lv_at hl 1 rfl) ?_
        refine lv_iload_n hx hb dX4_insertPart_8 rfl (lv_at hl 4 rfl) ?_
        have hr_4 := hC.r4
        refine xv_q (i := 0) (As := [.int (xI (t3 : Int))]) (rest := []) ⟨hx, hb, hml, hown, hts⟩ hl.1 (c_X4_textOrFour_none l D cA n ad en (by omega) hC t3 (by omega) hS_t3) k_X4_textOrFour u_ml_RX4_75 hK hN hP (by omega) hC.1 rfl rfl rfl rfl (Nat.le_of_ble_eq_true rfl) ⟨Nat.le_of_ble_eq_true rfl, Nat.le_of_ble_eq_true rfl⟩ ⟨Nat.le_of_ble_eq_true rfl, Nat.le_of_ble_eq_true rfl⟩ dX4_insertPart_9 ?_
        refine lv_astore (lv' := [(7, .ref (ad 9)), (6, .ref (ad (13 + 2 * b1))), (0, .ref (ad 0)), (1, .int (xI (b1 : Int))), (2, .int (xI z2)), (3, .int (xI (t3 : Int))), (4, .int (xI z4)), (5, .int (xI z5))]) hx hb dX4_insertPart_12 hl (by decide) rfl (fun ls hl => ?_)
        refine lv_aload hx hb dX4_insertPart_14 (lv_at hl 1 rfl) ?_
        refine lv_ifnull hx hb dX4_insertPart_16 ?_
        refine lv_aload hx hb dX4_insertPart_19 (lv_at hl 0 rfl) ?_
        refine lv_ifnonnull (tgt := 28) hx hb dX4_insertPart_21 (by decide) ?_
        refine lv_aload hx hb dX4_insertPart_28 (lv_at hl 1 rfl) ?_
        refine lv_iload_n hx hb dX4_insertPart_30 rfl (lv_at hl 4 rfl) ?_
        refine lv_iload_n hx hb dX4_insertPart_31 rfl (lv_at hl 4 rfl) ?_
        refine lv_aload hx hb dX4_insertPart_32 (lv_at hl 0 rfl) ?_
        refine lv_iload hx hb dX4_insertPart_34 (lv_at hl 6 rfl) ?_
        refine lv_iload hx hb dX4_insertPart_36 (lv_at hl 7 rfl) ?_
        refine xm_i (i := 13 + 2 * b1) (As := [.int (xI z2), .int (xI z2), .ref (ad 9), .int (xI z4), .int (xI z5)]) (rest := []) ⟨hx, hb, hml, hown, hts⟩ hl.1 (c_X2_change l D cA n ad en _ (by omega) hr_b1 (by omega) hr_4 (by omega) z2 z2 z4 z5 (by omega) (by omega) (by omega) (by omega)) k_X2_change u_ml_RX4_78 hK hN hP (by omega) hr_b1.1 rfl rfl rfl rfl (Nat.le_of_ble_eq_true rfl) ⟨Nat.le_of_ble_eq_true rfl, Nat.le_of_ble_eq_true rfl⟩ ⟨Nat.le_of_ble_eq_true rfl, Nat.le_of_ble_eq_true rfl⟩ dX4_insertPart_38 hD hS hA (fun r1 en1 H locs hp1 hP hS => ?_)
        exact xe_i hx hb hrt hlocks hP hS ((Or.elim (Classical.em ((0 ≤ z2 ∧ z2 ≤ z2 ∧ z2 ≤ ((S.1 b1).1 : Int)) ∧ 0 ≤ z4 ∧ z4 ≤ z5 ∧ z5 ≤ ((4 : Nat) : Int))) (fun hPc => by unfold am_insertPart; simp only [Int.toNat_natCast]; simp only [sp_told_n hS_t3]; rw [sp_if_f (by omega), sp_if_f (by omega)]; have q9 := x_fin hC h_b1 hp1 (by omega) (a := z2.toNat) (e := z2.toNat) (r0 := (((z5 - z4).toNat, fun q => sp_four (z4.toNat + q)) : xRow)) (by omega) (by omega) (by first | omega | (simp only []; omega)) (fun _ _ => rfl); exact ⟨q9.1, q9.2.1, (q9.2.2.mo (by omega) (by omega))⟩) (fun hPc => by unfold am_insertPart; simp only [Int.toNat_natCast]; simp only [sp_told_n hS_t3]; rw [sp_if_f (by omega), sp_if_t (by omega)]; obtain ⟨q1, q2⟩ := x_finP hp1 hPc; subst q1; subst q2; exact ⟨rfl, hC, xO.rf⟩))) dX4_insertPart_41
      · have hr_b1 : XR cA ad en (13 + 2 * b1) (S.1 b1).1 (S.1 b1).2 := hC.rb h_b1
        have hm_b1 := hr_b1.2.2.1
        have hT_t3 : XT cA ad en (21 + 3 * t3) (some r_t3) := by have q : XT cA ad en (21 + 3 * t3) (S.2.1 t3) := hC.rt h_t3; rw [hS_t3] at q; exact q
        have hr_t3 := hT_t3.2
        have hm_t3 := hr_t3.2.2.1
        refine lv_aload_n hx hb dX4_insertPart_0 rfl (lv_at hl 0 rfl) ?_
        refine lv_iload_n hx hb dX4_insertPart_1 rfl (lv_at hl 1 rfl) ?_
        refine xv_q (i := 0) (As := [.int (xI (b1 : Int))]) (rest := []) ⟨hx, hb, hml, hown, hts⟩ hl.1 (c_X4_builderOf_in l D cA n ad en (by omega) hC b1 (by omega)) k_X4_builderOf u_ml_RX4_52 hK hN hP (by omega) hC.1 rfl rfl rfl rfl (Nat.le_of_ble_eq_true rfl) ⟨Nat.le_of_ble_eq_true rfl, Nat.le_of_ble_eq_true rfl⟩ ⟨Nat.le_of_ble_eq_true rfl, Nat.le_of_ble_eq_true rfl⟩ dX4_insertPart_2 ?_
        refine lv_astore (lv' := [(6, .ref (ad (13 + 2 * b1))), (0, .ref (ad 0)), (1, .int (xI (b1 : Int))), (2, .int (xI z2)), (3, .int (xI (t3 : Int))), (4, .int (xI z4)), (5, .int (xI z5))]) hx hb dX4_insertPart_5 hl (by decide) rfl (fun ls hl => ?_)
        refine lv_aload_n hx hb dX4_insertPart_7 rfl (lv_at hl 1 rfl) ?_
        refine lv_iload_n hx hb dX4_insertPart_8 rfl (lv_at hl 4 rfl) ?_
        refine xv_q (i := 0) (As := [.int (xI (t3 : Int))]) (rest := []) ⟨hx, hb, hml, hown, hts⟩ hl.1 (c_X4_textOrFour_some l D cA n ad en (by omega) hC t3 (by omega) hS_t3) k_X4_textOrFour u_ml_RX4_75 hK hN hP (by omega) hC.1 rfl rfl rfl rfl (Nat.le_of_ble_eq_true rfl) ⟨Nat.le_of_ble_eq_true rfl, Nat.le_of_ble_eq_true rfl⟩ ⟨Nat.le_of_ble_eq_true rfl, Nat.le_of_ble_eq_true rfl⟩ dX4_insertPart_9 ?_
        refine lv_astore (lv' := [(7, .ref (ad (21 + 3 * t3 + 1))), (6, .ref (ad (13 + 2 * b1))), (0, .ref (ad 0)), (1, .int (xI (b1 : Int))), (2, .int (xI z2)), (3, .int (xI (t3 : Int))), (4, .int (xI z4)), (5, .int (xI z5))]) hx hb dX4_insertPart_12 hl (by decide) rfl (fun ls hl => ?_)
        refine lv_aload hx hb dX4_insertPart_14 (lv_at hl 1 rfl) ?_
        refine lv_ifnull hx hb dX4_insertPart_16 ?_
        refine lv_aload hx hb dX4_insertPart_19 (lv_at hl 0 rfl) ?_
        refine lv_ifnonnull (tgt := 28) hx hb dX4_insertPart_21 (by decide) ?_
        refine lv_aload hx hb dX4_insertPart_28 (lv_at hl 1 rfl) ?_
        refine lv_iload_n hx hb dX4_insertPart_30 rfl (lv_at hl 4 rfl) ?_
        refine lv_iload_n hx hb dX4_insertPart_31 rfl (lv_at hl 4 rfl) ?_
        refine lv_aload hx hb dX4_insertPart_32 (lv_at hl 0 rfl) ?_
        refine lv_iload hx hb dX4_insertPart_34 (lv_at hl 6 rfl) ?_
        refine lv_iload hx hb dX4_insertPart_36 (lv_at hl 7 rfl) ?_
        refine xm_i (i := 13 + 2 * b1) (As := [.int (xI z2), .int (xI z2), .ref (ad (21 + 3 * t3 + 1)), .int (xI z4), .int (xI z5)]) (rest := []) ⟨hx, hb, hml, hown, hts⟩ hl.1 (c_X2_change l D cA n ad en _ (by omega) hr_b1 (by omega) hr_t3 (by omega) z2 z2 z4 z5 (by omega) (by omega) (by omega) (by omega)) k_X2_change u_ml_RX4_78 hK hN hP (by omega) hr_b1.1 rfl rfl rfl rfl (Nat.le_of_ble_eq_true rfl) ⟨Nat.le_of_ble_eq_true rfl, Nat.le_of_ble_eq_true rfl⟩ ⟨Nat.le_of_ble_eq_true rfl, Nat.le_of_ble_eq_true rfl⟩ dX4_insertPart_38 hD hS hA (fun r2 en2 H locs hp2 hP hS => ?_)
        exact xe_i hx hb hrt hlocks hP hS ((Or.elim (Classical.em ((0 ≤ z2 ∧ z2 ≤ z2 ∧ z2 ≤ ((S.1 b1).1 : Int)) ∧ 0 ≤ z4 ∧ z4 ≤ z5 ∧ z5 ≤ (r_t3.1 : Int))) (fun hPc => by unfold am_insertPart; simp only [Int.toNat_natCast]; simp only [sp_told_s hS_t3]; rw [sp_if_f (by omega), sp_if_f (by omega)]; have q9 := x_fin hC h_b1 hp2 (by omega) (a := z2.toNat) (e := z2.toNat) (r0 := (((z5 - z4).toNat, fun q => r_t3.2 (z4.toNat + q)) : xRow)) (by omega) (by omega) (by first | omega | (simp only []; omega)) (fun _ _ => rfl); exact ⟨q9.1, q9.2.1, (q9.2.2.mo (by omega) (by omega))⟩) (fun hPc => by unfold am_insertPart; simp only [Int.toNat_natCast]; simp only [sp_told_s hS_t3]; rw [sp_if_f (by omega), sp_if_t (by omega)]; obtain ⟨q1, q2⟩ := x_finP hp2 hPc; subst q1; subst q2; exact ⟨rfl, hC, xO.rf⟩))) dX4_insertPart_41
    · have hr_b1 : XR cA ad en (13 + 2 * b1) (S.1 b1).1 (S.1 b1).2 := hC.rb h_b1
      have hm_b1 := hr_b1.2.2.1
      refine lv_aload_n hx hb dX4_insertPart_0 rfl (lv_at hl 0 rfl) ?_
      refine lv_iload_n hx hb dX4_insertPart_1 rfl (lv_at hl 1 rfl) ?_
      refine xv_q (i := 0) (As := [.int (xI (b1 : Int))]) (rest := []) ⟨hx, hb, hml, hown, hts⟩ hl.1 (c_X4_builderOf_in l D cA n ad en (by omega) hC b1 (by omega)) k_X4_builderOf u_ml_RX4_52 hK hN hP (by omega) hC.1 rfl rfl rfl rfl (Nat.le_of_ble_eq_true rfl) ⟨Nat.le_of_ble_eq_true rfl, Nat.le_of_ble_eq_true rfl⟩ ⟨Nat.le_of_ble_eq_true rfl, Nat.le_of_ble_eq_true rfl⟩ dX4_insertPart_2 ?_
      refine lv_astore (lv' := [(6, .ref (ad (13 + 2 * b1))), (0, .ref (ad 0)), (1, .int (xI (b1 : Int))), (2, .int (xI z2)), (3, .int (xI z3)), (4, .int (xI z4)), (5, .int (xI z5))]) hx hb dX4_insertPart_5 hl (by decide) rfl (fun ls hl => ?_)
      refine lv_aload_n hx hb dX4_insertPart_7 rfl (lv_at hl 1 rfl) ?_
      refine lv_iload_n hx hb dX4_insertPart_8 rfl (lv_at hl 4 rfl) ?_
      refine xv_q (i := 0) (As := [.int (xI z3)]) (rest := []) ⟨hx, hb, hml, hown, hts⟩ hl.1 (c_X4_textOrFour_out l D cA n ad en (by omega) hC z3 (by omega) (by omega)) k_X4_textOrFour u_ml_RX4_75 hK hN hP (by omega) hC.1 rfl rfl rfl rfl (Nat.le_of_ble_eq_true rfl) ⟨Nat.le_of_ble_eq_true rfl, Nat.le_of_ble_eq_true rfl⟩ ⟨Nat.le_of_ble_eq_true rfl, Nat.le_of_ble_eq_true rfl⟩ dX4_insertPart_9 ?_
      refine lv_astoreN (lv' := [(7, .null), (6, .ref (ad (13 + 2 * b1))), (0, .ref (ad 0)), (1, .int (xI (b1 : Int))), (2, .int (xI z2)), (3, .int (xI z3)), (4, .int (xI z4)), (5, .int (xI z5))]) hx hb dX4_insertPart_12 hl (by decide) rfl (fun ls hl => ?_)
      refine lv_aload hx hb dX4_insertPart_14 (lv_at hl 1 rfl) ?_
      refine lv_ifnull hx hb dX4_insertPart_16 ?_
      refine lv_aloadN hx hb dX4_insertPart_19 (lv_at hl 0 rfl) ?_
      refine lv_ifnonnullN hx hb dX4_insertPart_21 ?_
      refine x_sipush hx hb dX4_insertPart_24 (by decide +kernel) ?_
      exact xe_i hx hb hrt hlocks hP hS ((by unfold am_insertPart; simp only [Int.toNat_natCast]; rw [sp_if_t (by omega)]; exact ⟨rfl, hC, xO.rf⟩)) dX4_insertPart_27
  · rcases Classical.em (0 ≤ z3 ∧ z3 < 8) with hx_z3 | hx_z3
    · obtain ⟨t3, rfl⟩ : ∃ q : Nat, z3 = (q : Int) := ⟨z3.toNat, by omega⟩
      have h_t3 : t3 < 8 := by omega
      rcases hS_t3 : S.2.1 t3 with _ | r_t3
      · have hT_t3 : XT cA ad en (21 + 3 * t3) none := by have q : XT cA ad en (21 + 3 * t3) (S.2.1 t3) := hC.rt h_t3; rw [hS_t3] at q; exact q
        refine lv_aload_n hx hb dX4_insertPart_0 rfl (lv_at hl 0 rfl) ?_
        refine lv_iload_n hx hb dX4_insertPart_1 rfl (lv_at hl 1 rfl) ?_
        refine xv_q (i := 0) (As := [.int (xI z1)]) (rest := []) ⟨hx, hb, hml, hown, hts⟩ hl.1 (c_X4_builderOf_out l D cA n ad en (by omega) hC z1 (by omega) (by omega)) k_X4_builderOf u_ml_RX4_52 hK hN hP (by omega) hC.1 rfl rfl rfl rfl (Nat.le_of_ble_eq_true rfl) ⟨Nat.le_of_ble_eq_true rfl, Nat.le_of_ble_eq_true rfl⟩ ⟨Nat.le_of_ble_eq_true rfl, Nat.le_of_ble_eq_true rfl⟩ dX4_insertPart_2 ?_
        refine lv_astoreN (lv' := [(6, .null), (0, .ref (ad 0)), (1, .int (xI z1)), (2, .int (xI z2)), (3, .int (xI (t3 : Int))), (4, .int (xI z4)), (5, .int (xI z5))]) hx hb dX4_insertPart_5 hl (by decide) rfl (fun ls hl => ?_)
        refine lv_aload_n hx hb dX4_insertPart_7 rfl (lv_at hl 1 rfl) ?_
        refine lv_iload_n hx hb dX4_insertPart_8 rfl (lv_at hl 4 rfl) ?_
        have hr_4 := hC.r4
        refine xv_q (i := 0) (As := [.int (xI (t3 : Int))]) (rest := []) ⟨hx, hb, hml, hown, hts⟩ hl.1 (c_X4_textOrFour_none l D cA n ad en (by omega) hC t3 (by omega) hS_t3) k_X4_textOrFour u_ml_RX4_75 hK hN hP (by omega) hC.1 rfl rfl rfl rfl (Nat.le_of_ble_eq_true rfl) ⟨Nat.le_of_ble_eq_true rfl, Nat.le_of_ble_eq_true rfl⟩ ⟨Nat.le_of_ble_eq_true rfl, Nat.le_of_ble_eq_true rfl⟩ dX4_insertPart_9 ?_
        refine lv_astore (lv' := [(7, .ref (ad 9)), (6, .null), (0, .ref (ad 0)), (1, .int (xI z1)), (2, .int (xI z2)), (3, .int (xI (t3 : Int))), (4, .int (xI z4)), (5, .int (xI z5))]) hx hb dX4_insertPart_12 hl (by decide) rfl (fun ls hl => ?_)
        refine lv_aloadN hx hb dX4_insertPart_14 (lv_at hl 1 rfl) ?_
        refine lv_ifnullN (tgt := 24) hx hb dX4_insertPart_16 (by decide) ?_
        refine x_sipush hx hb dX4_insertPart_24 (by decide +kernel) ?_
        exact xe_i hx hb hrt hlocks hP hS ((by unfold am_insertPart; simp only [Int.toNat_natCast]; simp only [sp_told_n hS_t3]; rw [sp_if_t (by omega)]; exact ⟨rfl, hC, xO.rf⟩)) dX4_insertPart_27
      · have hT_t3 : XT cA ad en (21 + 3 * t3) (some r_t3) := by have q : XT cA ad en (21 + 3 * t3) (S.2.1 t3) := hC.rt h_t3; rw [hS_t3] at q; exact q
        have hr_t3 := hT_t3.2
        have hm_t3 := hr_t3.2.2.1
        refine lv_aload_n hx hb dX4_insertPart_0 rfl (lv_at hl 0 rfl) ?_
        refine lv_iload_n hx hb dX4_insertPart_1 rfl (lv_at hl 1 rfl) ?_
        refine xv_q (i := 0) (As := [.int (xI z1)]) (rest := []) ⟨hx, hb, hml, hown, hts⟩ hl.1 (c_X4_builderOf_out l D cA n ad en (by omega) hC z1 (by omega) (by omega)) k_X4_builderOf u_ml_RX4_52 hK hN hP (by omega) hC.1 rfl rfl rfl rfl (Nat.le_of_ble_eq_true rfl) ⟨Nat.le_of_ble_eq_true rfl, Nat.le_of_ble_eq_true rfl⟩ ⟨Nat.le_of_ble_eq_true rfl, Nat.le_of_ble_eq_true rfl⟩ dX4_insertPart_2 ?_
        refine lv_astoreN (lv' := [(6, .null), (0, .ref (ad 0)), (1, .int (xI z1)), (2, .int (xI z2)), (3, .int (xI (t3 : Int))), (4, .int (xI z4)), (5, .int (xI z5))]) hx hb dX4_insertPart_5 hl (by decide) rfl (fun ls hl => ?_)
        refine lv_aload_n hx hb dX4_insertPart_7 rfl (lv_at hl 1 rfl) ?_
        refine lv_iload_n hx hb dX4_insertPart_8 rfl (lv_at hl 4 rfl) ?_
        refine xv_q (i := 0) (As := [.int (xI (t3 : Int))]) (rest := []) ⟨hx, hb, hml, hown, hts⟩ hl.1 (c_X4_textOrFour_some l D cA n ad en (by omega) hC t3 (by omega) hS_t3) k_X4_textOrFour u_ml_RX4_75 hK hN hP (by omega) hC.1 rfl rfl rfl rfl (Nat.le_of_ble_eq_true rfl) ⟨Nat.le_of_ble_eq_true rfl, Nat.le_of_ble_eq_true rfl⟩ ⟨Nat.le_of_ble_eq_true rfl, Nat.le_of_ble_eq_true rfl⟩ dX4_insertPart_9 ?_
        refine lv_astore (lv' := [(7, .ref (ad (21 + 3 * t3 + 1))), (6, .null), (0, .ref (ad 0)), (1, .int (xI z1)), (2, .int (xI z2)), (3, .int (xI (t3 : Int))), (4, .int (xI z4)), (5, .int (xI z5))]) hx hb dX4_insertPart_12 hl (by decide) rfl (fun ls hl => ?_)
        refine lv_aloadN hx hb dX4_insertPart_14 (lv_at hl 1 rfl) ?_
        refine lv_ifnullN (tgt := 24) hx hb dX4_insertPart_16 (by decide) ?_
        refine x_sipush hx hb dX4_insertPart_24 (by decide +kernel) ?_
        exact xe_i hx hb hrt hlocks hP hS ((by unfold am_insertPart; simp only [Int.toNat_natCast]; simp only [sp_told_s hS_t3]; rw [sp_if_t (by omega)]; exact ⟨rfl, hC, xO.rf⟩)) dX4_insertPart_27
    · refine lv_aload_n hx hb dX4_insertPart_0 rfl (lv_at hl 0 rfl) ?_
      refine lv_iload_n hx hb dX4_insertPart_1 rfl (lv_at hl 1 rfl) ?_
      refine xv_q (i := 0) (As := [.int (xI z1)]) (rest := []) ⟨hx, hb, hml, hown, hts⟩ hl.1 (c_X4_builderOf_out l D cA n ad en (by omega) hC z1 (by omega) (by omega)) k_X4_builderOf u_ml_RX4_52 hK hN hP (by omega) hC.1 rfl rfl rfl rfl (Nat.le_of_ble_eq_true rfl) ⟨Nat.le_of_ble_eq_true rfl, Nat.le_of_ble_eq_true rfl⟩ ⟨Nat.le_of_ble_eq_true rfl, Nat.le_of_ble_eq_true rfl⟩ dX4_insertPart_2 ?_
      refine lv_astoreN (lv' := [(6, .null), (0, .ref (ad 0)), (1, .int (xI z1)), (2, .int (xI z2)), (3, .int (xI z3)), (4, .int (xI z4)), (5, .int (xI z5))]) hx hb dX4_insertPart_5 hl (by decide) rfl (fun ls hl => ?_)
      refine lv_aload_n hx hb dX4_insertPart_7 rfl (lv_at hl 1 rfl) ?_
      refine lv_iload_n hx hb dX4_insertPart_8 rfl (lv_at hl 4 rfl) ?_
      refine xv_q (i := 0) (As := [.int (xI z3)]) (rest := []) ⟨hx, hb, hml, hown, hts⟩ hl.1 (c_X4_textOrFour_out l D cA n ad en (by omega) hC z3 (by omega) (by omega)) k_X4_textOrFour u_ml_RX4_75 hK hN hP (by omega) hC.1 rfl rfl rfl rfl (Nat.le_of_ble_eq_true rfl) ⟨Nat.le_of_ble_eq_true rfl, Nat.le_of_ble_eq_true rfl⟩ ⟨Nat.le_of_ble_eq_true rfl, Nat.le_of_ble_eq_true rfl⟩ dX4_insertPart_9 ?_
      refine lv_astoreN (lv' := [(7, .null), (6, .null), (0, .ref (ad 0)), (1, .int (xI z1)), (2, .int (xI z2)), (3, .int (xI z3)), (4, .int (xI z4)), (5, .int (xI z5))]) hx hb dX4_insertPart_12 hl (by decide) rfl (fun ls hl => ?_)
      refine lv_aloadN hx hb dX4_insertPart_14 (lv_at hl 1 rfl) ?_
      refine lv_ifnullN (tgt := 24) hx hb dX4_insertPart_16 (by decide) ?_
      refine x_sipush hx hb dX4_insertPart_24 (by decide +kernel) ?_
      exact xe_i hx hb hrt hlocks hP hS ((by unfold am_insertPart; rw [sp_if_t (by omega)]; exact ⟨rfl, hC, xO.rf⟩)) dX4_insertPart_27

set_option maxRecDepth 20000 in
theorem c_X4_insertSign (l : Launch) (D : va_G) (cA : Nat → ClassId) (n : Nat) (ad : Nat → Nat) (en : Nat → va_E) (sz : Nat) (hn : 53 ≤ n) {S : xSt} (hC : CW cA ad en S) (z1 : Int) (hz1 : -2147483648 ≤ z1 ∧ z1 ≤ 2147483647) (z2 : Int) (hz2 : -2147483648 ≤ z2 ∧ z2 ≤ 2147483647) (z3 : Int) (hz3 : -2147483648 ≤ z3 ∧ z3 ≤ 2147483647) : Met l yX4_insertSign (Cond.code yX4_insertSign cX4_insertSign 5 (some .int) :: xU) (xrm 3 75) (va_Pc [.ref (ad 0), .int (xI z1), .int (xI z2), .int (xI z3)] (xM D cA n ad en sz)) (va_Qi (fun r u => r = xI (am_insertSign S z1 z2 z3).1 ∧ CW cA ad u (am_insertSign S z1 z2 z3).2 ∧ xO 0 53 en u) (xE D n ad) (xA n ad sz)) 0 0 (xA n ad sz) := by
  refine xmet (by decide) (Nat.le_of_ble_eq_true rfl) (fun p e s mm args below meth c ls hx hb hrt hml hown hts hlocks hname hB hl => ?_)
  obtain ⟨⟨hP, hK, hN⟩, hsz, hDt⟩ := hB
  have hD : xD (xA n ad sz) n ad := xD_self hDt sz
  have hA : ∀ q : Nat, s.heap.size ≤ q → xA n ad sz q := fun q h => Or.inr (by rw [← hsz]; exact h)
  have hS : va_S (xA n ad sz) s.heap s.heap [] := va_S.rf
  have hown : s.vm.findClass RX4 = some mm.cls := hown
  have hl : lv_has ls 5 [(0, .ref (ad 0)), (1, .int (xI z1)), (2, .int (xI z2)), (3, .int (xI z3))] := hl
  rcases Classical.em (0 ≤ z1 ∧ z1 < 4) with hx_z1 | hx_z1
  · obtain ⟨b1, rfl⟩ : ∃ q : Nat, z1 = (q : Int) := ⟨z1.toNat, by omega⟩
    have h_b1 : b1 < 4 := by omega
    have hr_b1 : XR cA ad en (13 + 2 * b1) (S.1 b1).1 (S.1 b1).2 := hC.rb h_b1
    have hm_b1 := hr_b1.2.2.1
    refine lv_aload_n hx hb dX4_insertSign_0 rfl (lv_at hl 0 rfl) ?_
    refine lv_iload_n hx hb dX4_insertSign_1 rfl (lv_at hl 1 rfl) ?_
    refine xv_q (i := 0) (As := [.int (xI (b1 : Int))]) (rest := []) ⟨hx, hb, hml, hown, hts⟩ hl.1 (c_X4_builderOf_in l D cA n ad en (by omega) hC b1 (by omega)) k_X4_builderOf u_ml_RX4_52 hK hN hP (by omega) hC.1 rfl rfl rfl rfl (Nat.le_of_ble_eq_true rfl) ⟨Nat.le_of_ble_eq_true rfl, Nat.le_of_ble_eq_true rfl⟩ ⟨Nat.le_of_ble_eq_true rfl, Nat.le_of_ble_eq_true rfl⟩ dX4_insertSign_2 ?_
    refine lv_astore (lv' := [(4, .ref (ad (13 + 2 * b1))), (0, .ref (ad 0)), (1, .int (xI (b1 : Int))), (2, .int (xI z2)), (3, .int (xI z3))]) hx hb dX4_insertSign_5 hl (by decide) rfl (fun ls hl => ?_)
    refine lv_aload hx hb dX4_insertSign_7 (lv_at hl 0 rfl) ?_
    refine lv_ifnonnull (tgt := 16) hx hb dX4_insertSign_9 (by decide) ?_
    refine lv_iload_n hx hb dX4_insertSign_16 rfl (lv_at hl 4 rfl) ?_
    refine xt_i (As := [.int (xI z3)]) (rest := []) ⟨hx, hb, hml, hown, hts⟩ hl.1 (c_X4_isSign l z3 (by omega)) k_X4_isSign u_ml_RX4_56 rfl rfl (Nat.le_of_ble_eq_true rfl) ⟨Nat.le_of_ble_eq_true rfl, Nat.le_of_ble_eq_true rfl⟩ ⟨Nat.le_of_ble_eq_true rfl, Nat.le_of_ble_eq_true rfl⟩ dX4_insertSign_17 ?_
    refine x_ifb_ne (tgt := 27) hx hb dX4_insertSign_20 (by decide)  (fun c_20 => ?_) (fun c_20 => ?_)
    · refine lv_aload hx hb dX4_insertSign_27 (lv_at hl 0 rfl) ?_
      refine lv_iload_n hx hb dX4_insertSign_29 rfl (lv_at hl 3 rfl) ?_
      refine lv_aload_n hx hb dX4_insertSign_30 rfl (lv_at hl 1 rfl) ?_
      refine lv_iload_n hx hb dX4_insertSign_31 rfl (lv_at hl 4 rfl) ?_
      obtain ⟨m0, f0, hr0⟩ := hC.rs
      refine xm_q (i := 0) (As := [.int (xI z3)]) (rest := [.int (xI z2), .ref (ad (13 + 2 * b1))]) ⟨hx, hb, hml, hown, hts⟩ hl.1 (c_X4_single l D cA n ad en _ (by omega) hC hr0 z3 (by omega)) k_X4_single u_ml_RX4_64 hK hN hP (by omega) hC.1 rfl rfl rfl rfl (Nat.le_of_ble_eq_true rfl) ⟨Nat.le_of_ble_eq_true rfl, Nat.le_of_ble_eq_true rfl⟩ ⟨Nat.le_of_ble_eq_true rfl, Nat.le_of_ble_eq_true rfl⟩ dX4_insertSign_32 hD hS hA (fun r1 en1 H locs hp1 hP hS => ?_)
      obtain ⟨hr9, hrs, hos⟩ := hp1
      subst hr9
      have hC := hC.spare hos hrs
      have ho : xO 0 53 en en1 := hos.mo (by omega) (by omega)
      have hr_b1 : XR cA ad en1 (13 + 2 * b1) (S.1 b1).1 (S.1 b1).2 := hC.rb h_b1
      have hm_b1 := hr_b1.2.2.1
      refine xm_i (i := 13 + 2 * b1) (As := [.int (xI z2), .ref (ad 11)]) (rest := []) ⟨hx, hb, hml, hown, hts⟩ hl.1 (c_X2_joinIn l D cA n ad en1 _ (by omega) hr_b1 (by omega) hrs (by omega) z2 (by omega)) k_X2_joinIn u_ml_RX4_67 hK hN hP (by omega) hr_b1.1 rfl rfl rfl rfl (Nat.le_of_ble_eq_true rfl) ⟨Nat.le_of_ble_eq_true rfl, Nat.le_of_ble_eq_true rfl⟩ ⟨Nat.le_of_ble_eq_true rfl, Nat.le_of_ble_eq_true rfl⟩ dX4_insertSign_35 hD hS hA (fun r2 en2 H locs hp2 hP hS => ?_)
      exact xe_i hx hb hrt hlocks hP hS ((Or.elim (Classical.em ((0 ≤ z2 ∧ z2 ≤ z2 ∧ z2 ≤ ((S.1 b1).1 : Int)) ∧ 0 ≤ (0 : Int) ∧ (0 : Int) ≤ ((1 : Nat) : Int) ∧ ((1 : Nat) : Int) ≤ ((1 : Nat) : Int))) (fun hPc => by unfold am_insertSign; simp only [Int.toNat_natCast]; rw [sp_if_f (by omega), sp_if_f (by omega), sp_if_f (by omega)]; have q9 := x_fin hC h_b1 hp2 (by omega) (a := z2.toNat) (e := z2.toNat) (r0 := ((1, fun _ => z3) : xRow)) (by omega) (by omega) (by first | omega | (simp only []; omega)) (fun _ _ => rfl); exact ⟨q9.1, q9.2.1, (ho.tr (q9.2.2.mo (by omega) (by omega)))⟩) (fun hPc => by unfold am_insertSign; simp only [Int.toNat_natCast]; rw [sp_if_f (by omega), sp_if_f (by omega), sp_if_t (by omega)]; obtain ⟨q1, q2⟩ := x_finP hp2 hPc; subst q1; subst q2; exact ⟨rfl, hC, ho⟩))) dX4_insertSign_38
    · refine x_sipush hx hb dX4_insertSign_23 (by decide +kernel) ?_
      exact xe_i hx hb hrt hlocks hP hS ((by unfold am_insertSign; simp only [Int.toNat_natCast]; rw [sp_if_f (by omega), sp_if_t (by omega)]; exact ⟨rfl, hC, xO.rf⟩)) dX4_insertSign_26
  · refine lv_aload_n hx hb dX4_insertSign_0 rfl (lv_at hl 0 rfl) ?_
    refine lv_iload_n hx hb dX4_insertSign_1 rfl (lv_at hl 1 rfl) ?_
    refine xv_q (i := 0) (As := [.int (xI z1)]) (rest := []) ⟨hx, hb, hml, hown, hts⟩ hl.1 (c_X4_builderOf_out l D cA n ad en (by omega) hC z1 (by omega) (by omega)) k_X4_builderOf u_ml_RX4_52 hK hN hP (by omega) hC.1 rfl rfl rfl rfl (Nat.le_of_ble_eq_true rfl) ⟨Nat.le_of_ble_eq_true rfl, Nat.le_of_ble_eq_true rfl⟩ ⟨Nat.le_of_ble_eq_true rfl, Nat.le_of_ble_eq_true rfl⟩ dX4_insertSign_2 ?_
    refine lv_astoreN (lv' := [(4, .null), (0, .ref (ad 0)), (1, .int (xI z1)), (2, .int (xI z2)), (3, .int (xI z3))]) hx hb dX4_insertSign_5 hl (by decide) rfl (fun ls hl => ?_)
    refine lv_aloadN hx hb dX4_insertSign_7 (lv_at hl 0 rfl) ?_
    refine lv_ifnonnullN hx hb dX4_insertSign_9 ?_
    refine x_sipush hx hb dX4_insertSign_12 (by decide +kernel) ?_
    exact xe_i hx hb hrt hlocks hP hS ((by unfold am_insertSign; rw [sp_if_t (by omega)]; exact ⟨rfl, hC, xO.rf⟩)) dX4_insertSign_15

set_option maxRecDepth 20000 in
theorem c_X4_delete (l : Launch) (D : va_G) (cA : Nat → ClassId) (n : Nat) (ad : Nat → Nat) (en : Nat → va_E) (sz : Nat) (hn : 53 ≤ n) {S : xSt} (hC : CW cA ad en S) (z1 : Int) (hz1 : -2147483648 ≤ z1 ∧ z1 ≤ 2147483647) (z2 : Int) (hz2 : -2147483648 ≤ z2 ∧ z2 ≤ 2147483647) (z3 : Int) (hz3 : -2147483648 ≤ z3 ∧ z3 ≤ 2147483647) : Met l yX4_delete (Cond.code yX4_delete cX4_delete 5 (some .int) :: xU) (xrm 3 76) (va_Pc [.ref (ad 0), .int (xI z1), .int (xI z2), .int (xI z3)] (xM D cA n ad en sz)) (va_Qi (fun r u => r = xI (am_delete S z1 z2 z3).1 ∧ CW cA ad u (am_delete S z1 z2 z3).2 ∧ xO 0 53 en u) (xE D n ad) (xA n ad sz)) 0 0 (xA n ad sz) := by
  refine xmet (by decide) (Nat.le_of_ble_eq_true rfl) (fun p e s mm args below meth c ls hx hb hrt hml hown hts hlocks hname hB hl => ?_)
  obtain ⟨⟨hP, hK, hN⟩, hsz, hDt⟩ := hB
  have hD : xD (xA n ad sz) n ad := xD_self hDt sz
  have hA : ∀ q : Nat, s.heap.size ≤ q → xA n ad sz q := fun q h => Or.inr (by rw [← hsz]; exact h)
  have hS : va_S (xA n ad sz) s.heap s.heap [] := va_S.rf
  have hown : s.vm.findClass RX4 = some mm.cls := hown
  have hl : lv_has ls 5 [(0, .ref (ad 0)), (1, .int (xI z1)), (2, .int (xI z2)), (3, .int (xI z3))] := hl
  rcases Classical.em (0 ≤ z1 ∧ z1 < 4) with hx_z1 | hx_z1
  · obtain ⟨b1, rfl⟩ : ∃ q : Nat, z1 = (q : Int) := ⟨z1.toNat, by omega⟩
    have h_b1 : b1 < 4 := by omega
    have hr_b1 : XR cA ad en (13 + 2 * b1) (S.1 b1).1 (S.1 b1).2 := hC.rb h_b1
    have hm_b1 := hr_b1.2.2.1
    refine lv_aload_n hx hb dX4_delete_0 rfl (lv_at hl 0 rfl) ?_
    refine lv_iload_n hx hb dX4_delete_1 rfl (lv_at hl 1 rfl) ?_
    refine xv_q (i := 0) (As := [.int (xI (b1 : Int))]) (rest := []) ⟨hx, hb, hml, hown, hts⟩ hl.1 (c_X4_builderOf_in l D cA n ad en (by omega) hC b1 (by omega)) k_X4_builderOf u_ml_RX4_52 hK hN hP (by omega) hC.1 rfl rfl rfl rfl (Nat.le_of_ble_eq_true rfl) ⟨Nat.le_of_ble_eq_true rfl, Nat.le_of_ble_eq_true rfl⟩ ⟨Nat.le_of_ble_eq_true rfl, Nat.le_of_ble_eq_true rfl⟩ dX4_delete_2 ?_
    refine lv_astore (lv' := [(4, .ref (ad (13 + 2 * b1))), (0, .ref (ad 0)), (1, .int (xI (b1 : Int))), (2, .int (xI z2)), (3, .int (xI z3))]) hx hb dX4_delete_5 hl (by decide) rfl (fun ls hl => ?_)
    refine lv_aload hx hb dX4_delete_7 (lv_at hl 0 rfl) ?_
    refine lv_ifnonnull (tgt := 16) hx hb dX4_delete_9 (by decide) ?_
    refine lv_aload hx hb dX4_delete_16 (lv_at hl 0 rfl) ?_
    refine lv_iload_n hx hb dX4_delete_18 rfl (lv_at hl 3 rfl) ?_
    refine lv_iload_n hx hb dX4_delete_19 rfl (lv_at hl 4 rfl) ?_
    refine lv_aload_n hx hb dX4_delete_20 rfl (lv_at hl 1 rfl) ?_
    obtain ⟨m0, f0, hr0⟩ := hC.rs
    refine xm_q (i := 0) (As := []) (rest := [.int (xI z3), .int (xI z2), .ref (ad (13 + 2 * b1))]) ⟨hx, hb, hml, hown, hts⟩ hl.1 (c_X4_nothing l D cA n ad en _ (by omega) hC hr0) k_X4_nothing u_ml_RX4_86 hK hN hP (by omega) hC.1 rfl rfl rfl rfl (Nat.le_of_ble_eq_true rfl) ⟨Nat.le_of_ble_eq_true rfl, Nat.le_of_ble_eq_true rfl⟩ ⟨Nat.le_of_ble_eq_true rfl, Nat.le_of_ble_eq_true rfl⟩ dX4_delete_21 hD hS hA (fun r1 en1 H locs hp1 hP hS => ?_)
    obtain ⟨hr9, hrs, hos⟩ := hp1
    subst hr9
    have hC := hC.spare hos hrs
    have ho : xO 0 53 en en1 := hos.mo (by omega) (by omega)
    have hr_b1 : XR cA ad en1 (13 + 2 * b1) (S.1 b1).1 (S.1 b1).2 := hC.rb h_b1
    have hm_b1 := hr_b1.2.2.1
    refine xm_i (i := 13 + 2 * b1) (As := [.int (xI z2), .int (xI z3), .ref (ad 11)]) (rest := []) ⟨hx, hb, hml, hown, hts⟩ hl.1 (c_X2_exchange l D cA n ad en1 _ (by omega) hr_b1 (by omega) hrs (by omega) z2 z3 (by omega) (by omega)) k_X2_exchange u_ml_RX4_90 hK hN hP (by omega) hr_b1.1 rfl rfl rfl rfl (Nat.le_of_ble_eq_true rfl) ⟨Nat.le_of_ble_eq_true rfl, Nat.le_of_ble_eq_true rfl⟩ ⟨Nat.le_of_ble_eq_true rfl, Nat.le_of_ble_eq_true rfl⟩ dX4_delete_24 hD hS hA (fun r2 en2 H locs hp2 hP hS => ?_)
    exact xe_i hx hb hrt hlocks hP hS ((Or.elim (Classical.em ((0 ≤ z2 ∧ z2 ≤ (min z3 ((S.1 b1).1 : Int)) ∧ (min z3 ((S.1 b1).1 : Int)) ≤ ((S.1 b1).1 : Int)) ∧ 0 ≤ (0 : Int) ∧ (0 : Int) ≤ ((0 : Nat) : Int) ∧ ((0 : Nat) : Int) ≤ ((0 : Nat) : Int))) (fun hPc => by unfold am_delete; simp only [Int.toNat_natCast]; rw [sp_if_f (by omega), sp_if_f (by omega)]; have q9 := x_fin hC h_b1 hp2 (by omega) (a := z2.toNat) (e := (min z3 ((S.1 b1).1 : Int)).toNat) (r0 := ((0, fun _ => 0) : xRow)) (by omega) (by omega) (by first | omega | (simp only []; omega)) (fun t ht => absurd ht (Nat.not_lt_zero _)); exact ⟨q9.1, q9.2.1, (ho.tr (q9.2.2.mo (by omega) (by omega)))⟩) (fun hPc => by unfold am_delete; simp only [Int.toNat_natCast]; rw [sp_if_f (by omega), sp_if_t (by omega)]; obtain ⟨q1, q2⟩ := x_finP hp2 hPc; subst q1; subst q2; exact ⟨rfl, hC, ho⟩))) dX4_delete_27
  · refine lv_aload_n hx hb dX4_delete_0 rfl (lv_at hl 0 rfl) ?_
    refine lv_iload_n hx hb dX4_delete_1 rfl (lv_at hl 1 rfl) ?_
    refine xv_q (i := 0) (As := [.int (xI z1)]) (rest := []) ⟨hx, hb, hml, hown, hts⟩ hl.1 (c_X4_builderOf_out l D cA n ad en (by omega) hC z1 (by omega) (by omega)) k_X4_builderOf u_ml_RX4_52 hK hN hP (by omega) hC.1 rfl rfl rfl rfl (Nat.le_of_ble_eq_true rfl) ⟨Nat.le_of_ble_eq_true rfl, Nat.le_of_ble_eq_true rfl⟩ ⟨Nat.le_of_ble_eq_true rfl, Nat.le_of_ble_eq_true rfl⟩ dX4_delete_2 ?_
    refine lv_astoreN (lv' := [(4, .null), (0, .ref (ad 0)), (1, .int (xI z1)), (2, .int (xI z2)), (3, .int (xI z3))]) hx hb dX4_delete_5 hl (by decide) rfl (fun ls hl => ?_)
    refine lv_aloadN hx hb dX4_delete_7 (lv_at hl 0 rfl) ?_
    refine lv_ifnonnullN hx hb dX4_delete_9 ?_
    refine x_sipush hx hb dX4_delete_12 (by decide +kernel) ?_
    exact xe_i hx hb hrt hlocks hP hS ((by unfold am_delete; rw [sp_if_t (by omega)]; exact ⟨rfl, hC, xO.rf⟩)) dX4_delete_15

set_option maxRecDepth 20000 in
theorem c_X4_deleteAt (l : Launch) (D : va_G) (cA : Nat → ClassId) (n : Nat) (ad : Nat → Nat) (en : Nat → va_E) (sz : Nat) (hn : 53 ≤ n) {S : xSt} (hC : CW cA ad en S) (z1 : Int) (hz1 : -2147483648 ≤ z1 ∧ z1 ≤ 2147483647) (z2 : Int) (hz2 : -2147483648 ≤ z2 ∧ z2 ≤ 2147483647) : Met l yX4_deleteAt (Cond.code yX4_deleteAt cX4_deleteAt 4 (some .int) :: xU) (xrm 3 76) (va_Pc [.ref (ad 0), .int (xI z1), .int (xI z2)] (xM D cA n ad en sz)) (va_Qi (fun r u => r = xI (am_deleteAt S z1 z2).1 ∧ CW cA ad u (am_deleteAt S z1 z2).2 ∧ xO 0 53 en u) (xE D n ad) (xA n ad sz)) 0 0 (xA n ad sz) := by
  refine xmet (by decide) (Nat.le_of_ble_eq_true rfl) (fun p e s mm args below meth c ls hx hb hrt hml hown hts hlocks hname hB hl => ?_)
  obtain ⟨⟨hP, hK, hN⟩, hsz, hDt⟩ := hB
  have hD : xD (xA n ad sz) n ad := xD_self hDt sz
  have hA : ∀ q : Nat, s.heap.size ≤ q → xA n ad sz q := fun q h => Or.inr (by rw [← hsz]; exact h)
  have hS : va_S (xA n ad sz) s.heap s.heap [] := va_S.rf
  have hown : s.vm.findClass RX4 = some mm.cls := hown
  have hl : lv_has ls 4 [(0, .ref (ad 0)), (1, .int (xI z1)), (2, .int (xI z2))] := hl
  rcases Classical.em (0 ≤ z1 ∧ z1 < 4) with hx_z1 | hx_z1
  · obtain ⟨b1, rfl⟩ : ∃ q : Nat, z1 = (q : Int) := ⟨z1.toNat, by omega⟩
    have h_b1 : b1 < 4 := by omega
    have hr_b1 : XR cA ad en (13 + 2 * b1) (S.1 b1).1 (S.1 b1).2 := hC.rb h_b1
    have hm_b1 := hr_b1.2.2.1
    refine lv_aload_n hx hb dX4_deleteAt_0 rfl (lv_at hl 0 rfl) ?_
    refine lv_iload_n hx hb dX4_deleteAt_1 rfl (lv_at hl 1 rfl) ?_
    refine xv_q (i := 0) (As := [.int (xI (b1 : Int))]) (rest := []) ⟨hx, hb, hml, hown, hts⟩ hl.1 (c_X4_builderOf_in l D cA n ad en (by omega) hC b1 (by omega)) k_X4_builderOf u_ml_RX4_52 hK hN hP (by omega) hC.1 rfl rfl rfl rfl (Nat.le_of_ble_eq_true rfl) ⟨Nat.le_of_ble_eq_true rfl, Nat.le_of_ble_eq_true rfl⟩ ⟨Nat.le_of_ble_eq_true rfl, Nat.le_of_ble_eq_true rfl⟩ dX4_deleteAt_2 ?_
    refine lv_astore_n (lv' := [(3, .ref (ad (13 + 2 * b1))), (0, .ref (ad 0)), (1, .int (xI (b1 : Int))), (2, .int (xI z2))]) hx hb dX4_deleteAt_5 rfl hl (by decide) rfl (fun ls hl => ?_)
    refine lv_aload_n hx hb dX4_deleteAt_6 rfl (lv_at hl 0 rfl) ?_
    refine lv_ifnonnull (tgt := 14) hx hb dX4_deleteAt_7 (by decide) ?_
    refine lv_aload_n hx hb dX4_deleteAt_14 rfl (lv_at hl 0 rfl) ?_
    refine lv_iload_n hx hb dX4_deleteAt_15 rfl (lv_at hl 3 rfl) ?_
    refine xv_i (i := 13 + 2 * b1) (As := [.int (xI z2)]) (rest := []) ⟨hx, hb, hml, hown, hts⟩ hl.1 (c_X2_holds l D cA n ad en (by omega) hr_b1 z2 (by omega)) k_X2_holds u_ml_RX4_94 hK hN hP (by omega) hr_b1.1 rfl rfl rfl rfl (Nat.le_of_ble_eq_true rfl) ⟨Nat.le_of_ble_eq_true rfl, Nat.le_of_ble_eq_true rfl⟩ ⟨Nat.le_of_ble_eq_true rfl, Nat.le_of_ble_eq_true rfl⟩ dX4_deleteAt_16 ?_
    refine x_ifb_ne (tgt := 26) hx hb dX4_deleteAt_19 (by decide)  (fun c_19 => ?_) (fun c_19 => ?_)
    · refine lv_aload_n hx hb dX4_deleteAt_26 rfl (lv_at hl 0 rfl) ?_
      refine lv_iload_n hx hb dX4_deleteAt_27 rfl (lv_at hl 3 rfl) ?_
      refine lv_iload_n hx hb dX4_deleteAt_28 rfl (lv_at hl 3 rfl) ?_
      refine x_iconst hx hb dX4_deleteAt_29 ?_
      refine x_iadd hx hb dX4_deleteAt_30 ?_
      refine lv_aload_n hx hb dX4_deleteAt_31 rfl (lv_at hl 1 rfl) ?_
      obtain ⟨m0, f0, hr0⟩ := hC.rs
      refine xm_q (i := 0) (As := []) (rest := [.int (xI (z2 + 1)), .int (xI z2), .ref (ad (13 + 2 * b1))]) ⟨hx, hb, hml, hown, hts⟩ hl.1 (c_X4_nothing l D cA n ad en _ (by omega) hC hr0) k_X4_nothing u_ml_RX4_86 hK hN hP (by omega) hC.1 rfl rfl rfl rfl (Nat.le_of_ble_eq_true rfl) ⟨Nat.le_of_ble_eq_true rfl, Nat.le_of_ble_eq_true rfl⟩ ⟨Nat.le_of_ble_eq_true rfl, Nat.le_of_ble_eq_true rfl⟩ dX4_deleteAt_32 hD hS hA (fun r1 en1 H locs hp1 hP hS => ?_)
      obtain ⟨hr9, hrs, hos⟩ := hp1
      subst hr9
      have hC := hC.spare hos hrs
      have ho : xO 0 53 en en1 := hos.mo (by omega) (by omega)
      have hr_b1 : XR cA ad en1 (13 + 2 * b1) (S.1 b1).1 (S.1 b1).2 := hC.rb h_b1
      have hm_b1 := hr_b1.2.2.1
      refine xm_i (i := 13 + 2 * b1) (As := [.int (xI z2), .int (xI (z2 + 1)), .ref (ad 11)]) (rest := []) ⟨hx, hb, hml, hown, hts⟩ hl.1 (c_X2_exchange l D cA n ad en1 _ (by omega) hr_b1 (by omega) hrs (by omega) z2 (z2 + 1) (by omega) (by omega)) k_X2_exchange u_ml_RX4_90 hK hN hP (by omega) hr_b1.1 rfl rfl rfl rfl (Nat.le_of_ble_eq_true rfl) ⟨Nat.le_of_ble_eq_true rfl, Nat.le_of_ble_eq_true rfl⟩ ⟨Nat.le_of_ble_eq_true rfl, Nat.le_of_ble_eq_true rfl⟩ dX4_deleteAt_35 hD hS hA (fun r2 en2 H locs hp2 hP hS => ?_)
      exact xe_i hx hb hrt hlocks hP hS (by unfold am_deleteAt; simp only [Int.toNat_natCast]; rw [sp_if_f (by omega), sp_if_f (by omega)]; have q9 := x_fin hC h_b1 hp2 (by omega) (a := z2.toNat) (e := (z2.toNat + 1)) (r0 := ((0, fun _ => 0) : xRow)) (by omega) (by omega) (by first | omega | (simp only []; omega)) (fun t ht => absurd ht (Nat.not_lt_zero _)); exact ⟨q9.1, q9.2.1, (ho.tr (q9.2.2.mo (by omega) (by omega)))⟩) dX4_deleteAt_38
    · refine x_sipush hx hb dX4_deleteAt_22 (by decide +kernel) ?_
      exact xe_i hx hb hrt hlocks hP hS ((by unfold am_deleteAt; simp only [Int.toNat_natCast]; rw [sp_if_f (by omega), sp_if_t (by omega)]; exact ⟨rfl, hC, xO.rf⟩)) dX4_deleteAt_25
  · refine lv_aload_n hx hb dX4_deleteAt_0 rfl (lv_at hl 0 rfl) ?_
    refine lv_iload_n hx hb dX4_deleteAt_1 rfl (lv_at hl 1 rfl) ?_
    refine xv_q (i := 0) (As := [.int (xI z1)]) (rest := []) ⟨hx, hb, hml, hown, hts⟩ hl.1 (c_X4_builderOf_out l D cA n ad en (by omega) hC z1 (by omega) (by omega)) k_X4_builderOf u_ml_RX4_52 hK hN hP (by omega) hC.1 rfl rfl rfl rfl (Nat.le_of_ble_eq_true rfl) ⟨Nat.le_of_ble_eq_true rfl, Nat.le_of_ble_eq_true rfl⟩ ⟨Nat.le_of_ble_eq_true rfl, Nat.le_of_ble_eq_true rfl⟩ dX4_deleteAt_2 ?_
    refine lv_astore_nN (lv' := [(3, .null), (0, .ref (ad 0)), (1, .int (xI z1)), (2, .int (xI z2))]) hx hb dX4_deleteAt_5 rfl hl (by decide) rfl (fun ls hl => ?_)
    refine lv_aload_nN hx hb dX4_deleteAt_6 rfl (lv_at hl 0 rfl) ?_
    refine lv_ifnonnullN hx hb dX4_deleteAt_7 ?_
    refine x_sipush hx hb dX4_deleteAt_10 (by decide +kernel) ?_
    exact xe_i hx hb hrt hlocks hP hS ((by unfold am_deleteAt; rw [sp_if_t (by omega)]; exact ⟨rfl, hC, xO.rf⟩)) dX4_deleteAt_13

set_option maxRecDepth 20000 in
theorem c_X4_replace (l : Launch) (D : va_G) (cA : Nat → ClassId) (n : Nat) (ad : Nat → Nat) (en : Nat → va_E) (sz : Nat) (hn : 53 ≤ n) {S : xSt} (hC : CW cA ad en S) (z1 : Int) (hz1 : -2147483648 ≤ z1 ∧ z1 ≤ 2147483647) (z2 : Int) (hz2 : -2147483648 ≤ z2 ∧ z2 ≤ 2147483647) (z3 : Int) (hz3 : -2147483648 ≤ z3 ∧ z3 ≤ 2147483647) (z4 : Int) (hz4 : -2147483648 ≤ z4 ∧ z4 ≤ 2147483647) : Met l yX4_replace (Cond.code yX4_replace cX4_replace 7 (some .int) :: xU) (xrm 3 76) (va_Pc [.ref (ad 0), .int (xI z1), .int (xI z2), .int (xI z3), .int (xI z4)] (xM D cA n ad en sz)) (va_Qi (fun r u => r = xI (am_replace S z1 z2 z3 z4).1 ∧ CW cA ad u (am_replace S z1 z2 z3 z4).2 ∧ xO 0 53 en u) (xE D n ad) (xA n ad sz)) 0 0 (xA n ad sz) := by
  refine xmet (by decide) (Nat.le_of_ble_eq_true rfl) (fun p e s mm args below meth c ls hx hb hrt hml hown hts hlocks hname hB hl => ?_)
  obtain ⟨⟨hP, hK, hN⟩, hsz, hDt⟩ := hB
  have hD : xD (xA n ad sz) n ad := xD_self hDt sz
  have hA : ∀ q : Nat, s.heap.size ≤ q → xA n ad sz q := fun q h => Or.inr (by rw [← hsz]; exact h)
  have hS : va_S (xA n ad sz) s.heap s.heap [] := va_S.rf
  have hown : s.vm.findClass RX4 = some mm.cls := hown
  have hl : lv_has ls 7 [(0, .ref (ad 0)), (1, .int (xI z1)), (2, .int (xI z2)), (3, .int (xI z3)), (4, .int (xI z4))] := hl
  rcases Classical.em (0 ≤ z1 ∧ z1 < 4) with hx_z1 | hx_z1
  · obtain ⟨b1, rfl⟩ : ∃ q : Nat, z1 = (q : Int) := ⟨z1.toNat, by omega⟩
    have h_b1 : b1 < 4 := by omega
    rcases Classical.em (0 ≤ z4 ∧ z4 < 8) with hx_z4 | hx_z4
    · obtain ⟨t4, rfl⟩ : ∃ q : Nat, z4 = (q : Int) := ⟨z4.toNat, by omega⟩
      have h_t4 : t4 < 8 := by omega
      rcases hS_t4 : S.2.1 t4 with _ | r_t4
      · have hr_b1 : XR cA ad en (13 + 2 * b1) (S.1 b1).1 (S.1 b1).2 := hC.rb h_b1
        have hm_b1 := hr_b1.2.2.1
        have hT_t4 : XT cA ad en (21 + 3 * t4) none := by have q : XT cA ad en (21 + 3 * t4) (S.2.1 t4) := hC.rt h_t4; rw [hS_t4] at q; exact q
        refine lv_aload_n hx hb dX4_replace_0 rfl (lv_at hl 0 rfl) ?_
        refine lv_iload_n hx hb dX4_replace_1 rfl (lv_at hl 1 rfl) ?_
        refine xv_q (i := 0) (As := [.int (xI (b1 : Int))]) (rest := []) ⟨hx, hb, hml, hown, hts⟩ hl.1 (c_X4_builderOf_in l D cA n ad en (by omega) hC b1 (by omega)) k_X4_builderOf u_ml_RX4_52 hK hN hP (by omega) hC.1 rfl rfl rfl rfl (Nat.le_of_ble_eq_true rfl) ⟨Nat.le_of_ble_eq_true rfl, Nat.le_of_ble_eq_true rfl⟩ ⟨Nat.le_of_ble_eq_true rfl, Nat.le_of_ble_eq_true rfl⟩ dX4_replace_2 ?_
        refine lv_astore (lv' := [(5, .ref (ad (13 + 2 * b1))), (0, .ref (ad 0)), (1, .int (xI (b1 : Int))), (2, .int (xI z2)), (3, .int (xI z3)), (4, .int (xI (t4 : Int)))]) hx hb dX4_replace_5 hl (by decide) rfl (fun ls hl => ?_)
        refine lv_aload_n hx hb dX4_replace_7 rfl (lv_at hl 1 rfl) ?_
        refine lv_iload hx hb dX4_replace_8 (lv_at hl 5 rfl) ?_
        refine xv_q (i := 0) (As := [.int (xI (t4 : Int))]) (rest := []) ⟨hx, hb, hml, hown, hts⟩ hl.1 (c_X4_textOf_in l D cA n ad en (by omega) hC t4 (by omega)) k_X4_textOf u_ml_RX4_97 hK hN hP (by omega) hC.1 rfl rfl rfl rfl (Nat.le_of_ble_eq_true rfl) ⟨Nat.le_of_ble_eq_true rfl, Nat.le_of_ble_eq_true rfl⟩ ⟨Nat.le_of_ble_eq_true rfl, Nat.le_of_ble_eq_true rfl⟩ dX4_replace_10 ?_
        refine lv_astore (lv' := [(6, .ref (ad (21 + 3 * t4))), (5, .ref (ad (13 + 2 * b1))), (0, .ref (ad 0)), (1, .int (xI (b1 : Int))), (2, .int (xI z2)), (3, .int (xI z3)), (4, .int (xI (t4 : Int)))]) hx hb dX4_replace_13 hl (by decide) rfl (fun ls hl => ?_)
        refine lv_aload hx hb dX4_replace_15 (lv_at hl 1 rfl) ?_
        refine lv_ifnull hx hb dX4_replace_17 ?_
        refine lv_aload hx hb dX4_replace_20 (lv_at hl 0 rfl) ?_
        refine lv_ifnonnull (tgt := 29) hx hb dX4_replace_22 (by decide) ?_
        refine lv_aload hx hb dX4_replace_29 (lv_at hl 0 rfl) ?_
        refine x_getn (T := TX3) (N := 2) hx hb hts uX3 hown hN hK hP (i := 21 + 3 * t4) (by omega) hT_t4.1 rfl 1 (by decide) (by simp only [xNest, List.mem_cons]; exact Or.inr (Or.inr (Or.inr (Or.inr (Or.inr (Or.inr (Or.inl rfl))))))) rfl dX4_replace_31 ?_
        refine x_if_eq (tgt := 41) hx hb dX4_replace_34 (by decide) (by omega) (fun c_34 => absurd c_34 (by omega)) (fun c_34 => ?_)
        refine x_sipush hx hb dX4_replace_37 (by decide +kernel) ?_
        exact xe_i hx hb hrt hlocks hP hS ((by unfold am_replace; simp only [Int.toNat_natCast]; rw [sp_if_f (by omega), sp_if_t (by simp [hS_t4])]; exact ⟨rfl, hC, xO.rf⟩)) dX4_replace_40
      · have hr_b1 : XR cA ad en (13 + 2 * b1) (S.1 b1).1 (S.1 b1).2 := hC.rb h_b1
        have hm_b1 := hr_b1.2.2.1
        have hT_t4 : XT cA ad en (21 + 3 * t4) (some r_t4) := by have q : XT cA ad en (21 + 3 * t4) (S.2.1 t4) := hC.rt h_t4; rw [hS_t4] at q; exact q
        have hr_t4 := hT_t4.2
        have hm_t4 := hr_t4.2.2.1
        refine lv_aload_n hx hb dX4_replace_0 rfl (lv_at hl 0 rfl) ?_
        refine lv_iload_n hx hb dX4_replace_1 rfl (lv_at hl 1 rfl) ?_
        refine xv_q (i := 0) (As := [.int (xI (b1 : Int))]) (rest := []) ⟨hx, hb, hml, hown, hts⟩ hl.1 (c_X4_builderOf_in l D cA n ad en (by omega) hC b1 (by omega)) k_X4_builderOf u_ml_RX4_52 hK hN hP (by omega) hC.1 rfl rfl rfl rfl (Nat.le_of_ble_eq_true rfl) ⟨Nat.le_of_ble_eq_true rfl, Nat.le_of_ble_eq_true rfl⟩ ⟨Nat.le_of_ble_eq_true rfl, Nat.le_of_ble_eq_true rfl⟩ dX4_replace_2 ?_
        refine lv_astore (lv' := [(5, .ref (ad (13 + 2 * b1))), (0, .ref (ad 0)), (1, .int (xI (b1 : Int))), (2, .int (xI z2)), (3, .int (xI z3)), (4, .int (xI (t4 : Int)))]) hx hb dX4_replace_5 hl (by decide) rfl (fun ls hl => ?_)
        refine lv_aload_n hx hb dX4_replace_7 rfl (lv_at hl 1 rfl) ?_
        refine lv_iload hx hb dX4_replace_8 (lv_at hl 5 rfl) ?_
        refine xv_q (i := 0) (As := [.int (xI (t4 : Int))]) (rest := []) ⟨hx, hb, hml, hown, hts⟩ hl.1 (c_X4_textOf_in l D cA n ad en (by omega) hC t4 (by omega)) k_X4_textOf u_ml_RX4_97 hK hN hP (by omega) hC.1 rfl rfl rfl rfl (Nat.le_of_ble_eq_true rfl) ⟨Nat.le_of_ble_eq_true rfl, Nat.le_of_ble_eq_true rfl⟩ ⟨Nat.le_of_ble_eq_true rfl, Nat.le_of_ble_eq_true rfl⟩ dX4_replace_10 ?_
        refine lv_astore (lv' := [(6, .ref (ad (21 + 3 * t4))), (5, .ref (ad (13 + 2 * b1))), (0, .ref (ad 0)), (1, .int (xI (b1 : Int))), (2, .int (xI z2)), (3, .int (xI z3)), (4, .int (xI (t4 : Int)))]) hx hb dX4_replace_13 hl (by decide) rfl (fun ls hl => ?_)
        refine lv_aload hx hb dX4_replace_15 (lv_at hl 1 rfl) ?_
        refine lv_ifnull hx hb dX4_replace_17 ?_
        refine lv_aload hx hb dX4_replace_20 (lv_at hl 0 rfl) ?_
        refine lv_ifnonnull (tgt := 29) hx hb dX4_replace_22 (by decide) ?_
        refine lv_aload hx hb dX4_replace_29 (lv_at hl 0 rfl) ?_
        refine x_getn (T := TX3) (N := 2) hx hb hts uX3 hown hN hK hP (i := 21 + 3 * t4) (by omega) hT_t4.1 rfl 1 (by decide) (by simp only [xNest, List.mem_cons]; exact Or.inr (Or.inr (Or.inr (Or.inr (Or.inr (Or.inr (Or.inl rfl))))))) rfl dX4_replace_31 ?_
        refine x_if_eq (tgt := 41) hx hb dX4_replace_34 (by decide) (by omega) (fun c_34 => ?_) (fun c_34 => absurd c_34 (by omega))
        refine lv_aload hx hb dX4_replace_41 (lv_at hl 1 rfl) ?_
        refine lv_iload_n hx hb dX4_replace_43 rfl (lv_at hl 4 rfl) ?_
        refine lv_iload_n hx hb dX4_replace_44 rfl (lv_at hl 5 rfl) ?_
        refine lv_aload hx hb dX4_replace_45 (lv_at hl 0 rfl) ?_
        refine x_getn (T := TX3) (N := 2) hx hb hts uX3 hown hN hK hP (i := 21 + 3 * t4) (by omega) hT_t4.1 rfl 0 (by decide) (by simp only [xNest, List.mem_cons]; exact Or.inr (Or.inr (Or.inr (Or.inr (Or.inr (Or.inl rfl)))))) rfl dX4_replace_47 ?_
        refine xm_i (i := 13 + 2 * b1) (As := [.int (xI z2), .int (xI z3), .ref (ad (21 + 3 * t4 + 1))]) (rest := []) ⟨hx, hb, hml, hown, hts⟩ hl.1 (c_X2_exchange l D cA n ad en _ (by omega) hr_b1 (by omega) hr_t4 (by omega) z2 z3 (by omega) (by omega)) k_X2_exchange u_ml_RX4_90 hK hN hP (by omega) hr_b1.1 rfl rfl rfl rfl (Nat.le_of_ble_eq_true rfl) ⟨Nat.le_of_ble_eq_true rfl, Nat.le_of_ble_eq_true rfl⟩ ⟨Nat.le_of_ble_eq_true rfl, Nat.le_of_ble_eq_true rfl⟩ dX4_replace_50 hD hS hA (fun r1 en1 H locs hp1 hP hS => ?_)
        exact xe_i hx hb hrt hlocks hP hS ((Or.elim (Classical.em ((0 ≤ z2 ∧ z2 ≤ (min z3 ((S.1 b1).1 : Int)) ∧ (min z3 ((S.1 b1).1 : Int)) ≤ ((S.1 b1).1 : Int)) ∧ 0 ≤ (0 : Int) ∧ (0 : Int) ≤ (r_t4.1 : Int) ∧ (r_t4.1 : Int) ≤ (r_t4.1 : Int))) (fun hPc => by unfold am_replace; simp only [Int.toNat_natCast]; simp only [sp_get_s hS_t4]; rw [sp_if_f (by omega), sp_if_f (by simp [hS_t4]), sp_if_f (by omega)]; have q9 := x_fin hC h_b1 hp1 (by omega) (a := z2.toNat) (e := (min z3 ((S.1 b1).1 : Int)).toNat) (r0 := r_t4) (by omega) (by omega) (by first | omega | (simp only []; omega)) (fun t ht => by rw [show Int.toNat 0 + t = t from Nat.zero_add t]); exact ⟨q9.1, q9.2.1, (q9.2.2.mo (by omega) (by omega))⟩) (fun hPc => by unfold am_replace; simp only [Int.toNat_natCast]; simp only [sp_get_s hS_t4]; rw [sp_if_f (by omega), sp_if_f (by simp [hS_t4]), sp_if_t (by omega)]; obtain ⟨q1, q2⟩ := x_finP hp1 hPc; subst q1; subst q2; exact ⟨rfl, hC, xO.rf⟩))) dX4_replace_53
    · have hr_b1 : XR cA ad en (13 + 2 * b1) (S.1 b1).1 (S.1 b1).2 := hC.rb h_b1
      have hm_b1 := hr_b1.2.2.1
      refine lv_aload_n hx hb dX4_replace_0 rfl (lv_at hl 0 rfl) ?_
      refine lv_iload_n hx hb dX4_replace_1 rfl (lv_at hl 1 rfl) ?_
      refine xv_q (i := 0) (As := [.int (xI (b1 : Int))]) (rest := []) ⟨hx, hb, hml, hown, hts⟩ hl.1 (c_X4_builderOf_in l D cA n ad en (by omega) hC b1 (by omega)) k_X4_builderOf u_ml_RX4_52 hK hN hP (by omega) hC.1 rfl rfl rfl rfl (Nat.le_of_ble_eq_true rfl) ⟨Nat.le_of_ble_eq_true rfl, Nat.le_of_ble_eq_true rfl⟩ ⟨Nat.le_of_ble_eq_true rfl, Nat.le_of_ble_eq_true rfl⟩ dX4_replace_2 ?_
      refine lv_astore (lv' := [(5, .ref (ad (13 + 2 * b1))), (0, .ref (ad 0)), (1, .int (xI (b1 : Int))), (2, .int (xI z2)), (3, .int (xI z3)), (4, .int (xI z4))]) hx hb dX4_replace_5 hl (by decide) rfl (fun ls hl => ?_)
      refine lv_aload_n hx hb dX4_replace_7 rfl (lv_at hl 1 rfl) ?_
      refine lv_iload hx hb dX4_replace_8 (lv_at hl 5 rfl) ?_
      refine xv_q (i := 0) (As := [.int (xI z4)]) (rest := []) ⟨hx, hb, hml, hown, hts⟩ hl.1 (c_X4_textOf_out l D cA n ad en (by omega) hC z4 (by omega) (by omega)) k_X4_textOf u_ml_RX4_97 hK hN hP (by omega) hC.1 rfl rfl rfl rfl (Nat.le_of_ble_eq_true rfl) ⟨Nat.le_of_ble_eq_true rfl, Nat.le_of_ble_eq_true rfl⟩ ⟨Nat.le_of_ble_eq_true rfl, Nat.le_of_ble_eq_true rfl⟩ dX4_replace_10 ?_
      refine lv_astoreN (lv' := [(6, .null), (5, .ref (ad (13 + 2 * b1))), (0, .ref (ad 0)), (1, .int (xI (b1 : Int))), (2, .int (xI z2)), (3, .int (xI z3)), (4, .int (xI z4))]) hx hb dX4_replace_13 hl (by decide) rfl (fun ls hl => ?_)
      refine lv_aload hx hb dX4_replace_15 (lv_at hl 1 rfl) ?_
      refine lv_ifnull hx hb dX4_replace_17 ?_
      refine lv_aloadN hx hb dX4_replace_20 (lv_at hl 0 rfl) ?_
      refine lv_ifnonnullN hx hb dX4_replace_22 ?_
      refine x_sipush hx hb dX4_replace_25 (by decide +kernel) ?_
      exact xe_i hx hb hrt hlocks hP hS ((by unfold am_replace; simp only [Int.toNat_natCast]; rw [sp_if_t (by omega)]; exact ⟨rfl, hC, xO.rf⟩)) dX4_replace_28
  · rcases Classical.em (0 ≤ z4 ∧ z4 < 8) with hx_z4 | hx_z4
    · obtain ⟨t4, rfl⟩ : ∃ q : Nat, z4 = (q : Int) := ⟨z4.toNat, by omega⟩
      have h_t4 : t4 < 8 := by omega
      rcases hS_t4 : S.2.1 t4 with _ | r_t4
      · have hT_t4 : XT cA ad en (21 + 3 * t4) none := by have q : XT cA ad en (21 + 3 * t4) (S.2.1 t4) := hC.rt h_t4; rw [hS_t4] at q; exact q
        refine lv_aload_n hx hb dX4_replace_0 rfl (lv_at hl 0 rfl) ?_
        refine lv_iload_n hx hb dX4_replace_1 rfl (lv_at hl 1 rfl) ?_
        refine xv_q (i := 0) (As := [.int (xI z1)]) (rest := []) ⟨hx, hb, hml, hown, hts⟩ hl.1 (c_X4_builderOf_out l D cA n ad en (by omega) hC z1 (by omega) (by omega)) k_X4_builderOf u_ml_RX4_52 hK hN hP (by omega) hC.1 rfl rfl rfl rfl (Nat.le_of_ble_eq_true rfl) ⟨Nat.le_of_ble_eq_true rfl, Nat.le_of_ble_eq_true rfl⟩ ⟨Nat.le_of_ble_eq_true rfl, Nat.le_of_ble_eq_true rfl⟩ dX4_replace_2 ?_
        refine lv_astoreN (lv' := [(5, .null), (0, .ref (ad 0)), (1, .int (xI z1)), (2, .int (xI z2)), (3, .int (xI z3)), (4, .int (xI (t4 : Int)))]) hx hb dX4_replace_5 hl (by decide) rfl (fun ls hl => ?_)
        refine lv_aload_n hx hb dX4_replace_7 rfl (lv_at hl 1 rfl) ?_
        refine lv_iload hx hb dX4_replace_8 (lv_at hl 5 rfl) ?_
        refine xv_q (i := 0) (As := [.int (xI (t4 : Int))]) (rest := []) ⟨hx, hb, hml, hown, hts⟩ hl.1 (c_X4_textOf_in l D cA n ad en (by omega) hC t4 (by omega)) k_X4_textOf u_ml_RX4_97 hK hN hP (by omega) hC.1 rfl rfl rfl rfl (Nat.le_of_ble_eq_true rfl) ⟨Nat.le_of_ble_eq_true rfl, Nat.le_of_ble_eq_true rfl⟩ ⟨Nat.le_of_ble_eq_true rfl, Nat.le_of_ble_eq_true rfl⟩ dX4_replace_10 ?_
        refine lv_astore (lv' := [(6, .ref (ad (21 + 3 * t4))), (5, .null), (0, .ref (ad 0)), (1, .int (xI z1)), (2, .int (xI z2)), (3, .int (xI z3)), (4, .int (xI (t4 : Int)))]) hx hb dX4_replace_13 hl (by decide) rfl (fun ls hl => ?_)
        refine lv_aloadN hx hb dX4_replace_15 (lv_at hl 1 rfl) ?_
        refine lv_ifnullN (tgt := 25) hx hb dX4_replace_17 (by decide) ?_
        refine x_sipush hx hb dX4_replace_25 (by decide +kernel) ?_
        exact xe_i hx hb hrt hlocks hP hS ((by unfold am_replace; simp only [Int.toNat_natCast]; rw [sp_if_t (by omega)]; exact ⟨rfl, hC, xO.rf⟩)) dX4_replace_28
      · have hT_t4 : XT cA ad en (21 + 3 * t4) (some r_t4) := by have q : XT cA ad en (21 + 3 * t4) (S.2.1 t4) := hC.rt h_t4; rw [hS_t4] at q; exact q
        have hr_t4 := hT_t4.2
        have hm_t4 := hr_t4.2.2.1
        refine lv_aload_n hx hb dX4_replace_0 rfl (lv_at hl 0 rfl) ?_
        refine lv_iload_n hx hb dX4_replace_1 rfl (lv_at hl 1 rfl) ?_
        refine xv_q (i := 0) (As := [.int (xI z1)]) (rest := []) ⟨hx, hb, hml, hown, hts⟩ hl.1 (c_X4_builderOf_out l D cA n ad en (by omega) hC z1 (by omega) (by omega)) k_X4_builderOf u_ml_RX4_52 hK hN hP (by omega) hC.1 rfl rfl rfl rfl (Nat.le_of_ble_eq_true rfl) ⟨Nat.le_of_ble_eq_true rfl, Nat.le_of_ble_eq_true rfl⟩ ⟨Nat.le_of_ble_eq_true rfl, Nat.le_of_ble_eq_true rfl⟩ dX4_replace_2 ?_
        refine lv_astoreN (lv' := [(5, .null), (0, .ref (ad 0)), (1, .int (xI z1)), (2, .int (xI z2)), (3, .int (xI z3)), (4, .int (xI (t4 : Int)))]) hx hb dX4_replace_5 hl (by decide) rfl (fun ls hl => ?_)
        refine lv_aload_n hx hb dX4_replace_7 rfl (lv_at hl 1 rfl) ?_
        refine lv_iload hx hb dX4_replace_8 (lv_at hl 5 rfl) ?_
        refine xv_q (i := 0) (As := [.int (xI (t4 : Int))]) (rest := []) ⟨hx, hb, hml, hown, hts⟩ hl.1 (c_X4_textOf_in l D cA n ad en (by omega) hC t4 (by omega)) k_X4_textOf u_ml_RX4_97 hK hN hP (by omega) hC.1 rfl rfl rfl rfl (Nat.le_of_ble_eq_true rfl) ⟨Nat.le_of_ble_eq_true rfl, Nat.le_of_ble_eq_true rfl⟩ ⟨Nat.le_of_ble_eq_true rfl, Nat.le_of_ble_eq_true rfl⟩ dX4_replace_10 ?_
        refine lv_astore (lv' := [(6, .ref (ad (21 + 3 * t4))), (5, .null), (0, .ref (ad 0)), (1, .int (xI z1)), (2, .int (xI z2)), (3, .int (xI z3)), (4, .int (xI (t4 : Int)))]) hx hb dX4_replace_13 hl (by decide) rfl (fun ls hl => ?_)
        refine lv_aloadN hx hb dX4_replace_15 (lv_at hl 1 rfl) ?_
        refine lv_ifnullN (tgt := 25) hx hb dX4_replace_17 (by decide) ?_
        refine x_sipush hx hb dX4_replace_25 (by decide +kernel) ?_
        exact xe_i hx hb hrt hlocks hP hS ((by unfold am_replace; simp only [Int.toNat_natCast]; simp only [sp_get_s hS_t4]; rw [sp_if_t (by omega)]; exact ⟨rfl, hC, xO.rf⟩)) dX4_replace_28
    · refine lv_aload_n hx hb dX4_replace_0 rfl (lv_at hl 0 rfl) ?_
      refine lv_iload_n hx hb dX4_replace_1 rfl (lv_at hl 1 rfl) ?_
      refine xv_q (i := 0) (As := [.int (xI z1)]) (rest := []) ⟨hx, hb, hml, hown, hts⟩ hl.1 (c_X4_builderOf_out l D cA n ad en (by omega) hC z1 (by omega) (by omega)) k_X4_builderOf u_ml_RX4_52 hK hN hP (by omega) hC.1 rfl rfl rfl rfl (Nat.le_of_ble_eq_true rfl) ⟨Nat.le_of_ble_eq_true rfl, Nat.le_of_ble_eq_true rfl⟩ ⟨Nat.le_of_ble_eq_true rfl, Nat.le_of_ble_eq_true rfl⟩ dX4_replace_2 ?_
      refine lv_astoreN (lv' := [(5, .null), (0, .ref (ad 0)), (1, .int (xI z1)), (2, .int (xI z2)), (3, .int (xI z3)), (4, .int (xI z4))]) hx hb dX4_replace_5 hl (by decide) rfl (fun ls hl => ?_)
      refine lv_aload_n hx hb dX4_replace_7 rfl (lv_at hl 1 rfl) ?_
      refine lv_iload hx hb dX4_replace_8 (lv_at hl 5 rfl) ?_
      refine xv_q (i := 0) (As := [.int (xI z4)]) (rest := []) ⟨hx, hb, hml, hown, hts⟩ hl.1 (c_X4_textOf_out l D cA n ad en (by omega) hC z4 (by omega) (by omega)) k_X4_textOf u_ml_RX4_97 hK hN hP (by omega) hC.1 rfl rfl rfl rfl (Nat.le_of_ble_eq_true rfl) ⟨Nat.le_of_ble_eq_true rfl, Nat.le_of_ble_eq_true rfl⟩ ⟨Nat.le_of_ble_eq_true rfl, Nat.le_of_ble_eq_true rfl⟩ dX4_replace_10 ?_
      refine lv_astoreN (lv' := [(6, .null), (5, .null), (0, .ref (ad 0)), (1, .int (xI z1)), (2, .int (xI z2)), (3, .int (xI z3)), (4, .int (xI z4))]) hx hb dX4_replace_13 hl (by decide) rfl (fun ls hl => ?_)
      refine lv_aloadN hx hb dX4_replace_15 (lv_at hl 1 rfl) ?_
      refine lv_ifnullN (tgt := 25) hx hb dX4_replace_17 (by decide) ?_
      refine x_sipush hx hb dX4_replace_25 (by decide +kernel) ?_
      exact xe_i hx hb hrt hlocks hP hS ((by unfold am_replace; rw [sp_if_t (by omega)]; exact ⟨rfl, hC, xO.rf⟩)) dX4_replace_28

set_option maxRecDepth 20000 in
theorem c_X4_reverse (l : Launch) (D : va_G) (cA : Nat → ClassId) (n : Nat) (ad : Nat → Nat) (en : Nat → va_E) (sz : Nat) (hn : 53 ≤ n) {S : xSt} (hC : CW cA ad en S) (z1 : Int) (hz1 : -2147483648 ≤ z1 ∧ z1 ≤ 2147483647) : Met l yX4_reverse (Cond.code yX4_reverse cX4_reverse 3 (some .int) :: xU) (xrm 3 66) (va_Pc [.ref (ad 0), .int (xI z1)] (xM D cA n ad en sz)) (va_Qi (fun r u => r = xI (am_reverse S z1).1 ∧ CW cA ad u (am_reverse S z1).2 ∧ xO 0 53 en u) (xE D n ad) (xA n ad sz)) 0 0 (xA n ad sz) := by
  refine xmet (by decide) (Nat.le_of_ble_eq_true rfl) (fun p e s mm args below meth c ls hx hb hrt hml hown hts hlocks hname hB hl => ?_)
  obtain ⟨⟨hP, hK, hN⟩, hsz, hDt⟩ := hB
  have hD : xD (xA n ad sz) n ad := xD_self hDt sz
  have hA : ∀ q : Nat, s.heap.size ≤ q → xA n ad sz q := fun q h => Or.inr (by rw [← hsz]; exact h)
  have hS : va_S (xA n ad sz) s.heap s.heap [] := va_S.rf
  have hown : s.vm.findClass RX4 = some mm.cls := hown
  have hl : lv_has ls 3 [(0, .ref (ad 0)), (1, .int (xI z1))] := hl
  rcases Classical.em (0 ≤ z1 ∧ z1 < 4) with hx_z1 | hx_z1
  · obtain ⟨b1, rfl⟩ : ∃ q : Nat, z1 = (q : Int) := ⟨z1.toNat, by omega⟩
    have h_b1 : b1 < 4 := by omega
    have hr_b1 : XR cA ad en (13 + 2 * b1) (S.1 b1).1 (S.1 b1).2 := hC.rb h_b1
    have hm_b1 := hr_b1.2.2.1
    refine lv_aload_n hx hb dX4_reverse_0 rfl (lv_at hl 0 rfl) ?_
    refine lv_iload_n hx hb dX4_reverse_1 rfl (lv_at hl 1 rfl) ?_
    refine xv_q (i := 0) (As := [.int (xI (b1 : Int))]) (rest := []) ⟨hx, hb, hml, hown, hts⟩ hl.1 (c_X4_builderOf_in l D cA n ad en (by omega) hC b1 (by omega)) k_X4_builderOf u_ml_RX4_52 hK hN hP (by omega) hC.1 rfl rfl rfl rfl (Nat.le_of_ble_eq_true rfl) ⟨Nat.le_of_ble_eq_true rfl, Nat.le_of_ble_eq_true rfl⟩ ⟨Nat.le_of_ble_eq_true rfl, Nat.le_of_ble_eq_true rfl⟩ dX4_reverse_2 ?_
    refine lv_astore_n (lv' := [(2, .ref (ad (13 + 2 * b1))), (0, .ref (ad 0)), (1, .int (xI (b1 : Int)))]) hx hb dX4_reverse_5 rfl hl (by decide) rfl (fun ls hl => ?_)
    refine lv_aload_n hx hb dX4_reverse_6 rfl (lv_at hl 0 rfl) ?_
    refine lv_ifnonnull (tgt := 14) hx hb dX4_reverse_7 (by decide) ?_
    refine lv_aload_n hx hb dX4_reverse_14 rfl (lv_at hl 0 rfl) ?_
    refine xm_v (i := 13 + 2 * b1) (As := []) (rest := []) ⟨hx, hb, hml, hown, hts⟩ hl.1 (c_X2_turnRound l D cA n ad en _ (by omega) hr_b1  ) k_X2_turnRound u_ml_RX4_108 hK hN hP (by omega) hr_b1.1 rfl rfl rfl rfl (Nat.le_of_ble_eq_true rfl) ⟨Nat.le_of_ble_eq_true rfl, Nat.le_of_ble_eq_true rfl⟩ ⟨Nat.le_of_ble_eq_true rfl, Nat.le_of_ble_eq_true rfl⟩ dX4_reverse_15 hD hS hA (fun en1 H locs hp1 hP hS => ?_)
    obtain ⟨hx9, hob⟩ := hp1
    have hC9 := hC.builder h_b1 (hob.mo (by omega) (by omega)) hx9
    have ho : xO 0 53 en en1 := hob.mo (by omega) (by omega)
    refine lv_aload_n hx hb dX4_reverse_18 rfl (lv_at hl 0 rfl) ?_
    refine x_getn (T := TX2) (N := 2) hx hb hts uX2 hown hN hK hP (i := 13 + 2 * b1) (by omega) hx9.1 rfl 1 (by decide) (by simp only [xNest, List.mem_cons]; exact Or.inr (Or.inl rfl)) rfl dX4_reverse_19 ?_
    exact xe_i hx hb hrt hlocks hP hS ((by unfold am_reverse; simp only [Int.toNat_natCast]; rw [sp_if_f (by omega)]; exact ⟨rfl, hC9, ho⟩)) dX4_reverse_22
  · refine lv_aload_n hx hb dX4_reverse_0 rfl (lv_at hl 0 rfl) ?_
    refine lv_iload_n hx hb dX4_reverse_1 rfl (lv_at hl 1 rfl) ?_
    refine xv_q (i := 0) (As := [.int (xI z1)]) (rest := []) ⟨hx, hb, hml, hown, hts⟩ hl.1 (c_X4_builderOf_out l D cA n ad en (by omega) hC z1 (by omega) (by omega)) k_X4_builderOf u_ml_RX4_52 hK hN hP (by omega) hC.1 rfl rfl rfl rfl (Nat.le_of_ble_eq_true rfl) ⟨Nat.le_of_ble_eq_true rfl, Nat.le_of_ble_eq_true rfl⟩ ⟨Nat.le_of_ble_eq_true rfl, Nat.le_of_ble_eq_true rfl⟩ dX4_reverse_2 ?_
    refine lv_astore_nN (lv' := [(2, .null), (0, .ref (ad 0)), (1, .int (xI z1))]) hx hb dX4_reverse_5 rfl hl (by decide) rfl (fun ls hl => ?_)
    refine lv_aload_nN hx hb dX4_reverse_6 rfl (lv_at hl 0 rfl) ?_
    refine lv_ifnonnullN hx hb dX4_reverse_7 ?_
    refine x_sipush hx hb dX4_reverse_10 (by decide +kernel) ?_
    exact xe_i hx hb hrt hlocks hP hS ((by unfold am_reverse; rw [sp_if_t (by omega)]; exact ⟨rfl, hC, xO.rf⟩)) dX4_reverse_13

set_option maxRecDepth 20000 in
theorem c_X4_put (l : Launch) (D : va_G) (cA : Nat → ClassId) (n : Nat) (ad : Nat → Nat) (en : Nat → va_E) (sz : Nat) (hn : 53 ≤ n) {S : xSt} (hC : CW cA ad en S) (z1 : Int) (hz1 : -2147483648 ≤ z1 ∧ z1 ≤ 2147483647) (z2 : Int) (hz2 : -2147483648 ≤ z2 ∧ z2 ≤ 2147483647) (z3 : Int) (hz3 : -2147483648 ≤ z3 ∧ z3 ≤ 2147483647) : Met l yX4_put (Cond.code yX4_put cX4_put 6 (some .int) :: xU) (xrm 2 43) (va_Pc [.ref (ad 0), .int (xI z1), .int (xI z2), .int (xI z3)] (xM D cA n ad en sz)) (va_Qi (fun r u => r = xI (am_put S z1 z2 z3).1 ∧ CW cA ad u (am_put S z1 z2 z3).2 ∧ xO 0 53 en u) (xE D n ad) (xA n ad sz)) 0 0 (xA n ad sz) := by
  refine xmet (by decide) (Nat.le_of_ble_eq_true rfl) (fun p e s mm args below meth c ls hx hb hrt hml hown hts hlocks hname hB hl => ?_)
  obtain ⟨⟨hP, hK, hN⟩, hsz, hDt⟩ := hB
  have hD : xD (xA n ad sz) n ad := xD_self hDt sz
  have hA : ∀ q : Nat, s.heap.size ≤ q → xA n ad sz q := fun q h => Or.inr (by rw [← hsz]; exact h)
  have hS : va_S (xA n ad sz) s.heap s.heap [] := va_S.rf
  have hown : s.vm.findClass RX4 = some mm.cls := hown
  have hl : lv_has ls 6 [(0, .ref (ad 0)), (1, .int (xI z1)), (2, .int (xI z2)), (3, .int (xI z3))] := hl
  rcases Classical.em (0 ≤ z1 ∧ z1 < 4) with hx_z1 | hx_z1
  · obtain ⟨b1, rfl⟩ : ∃ q : Nat, z1 = (q : Int) := ⟨z1.toNat, by omega⟩
    have h_b1 : b1 < 4 := by omega
    have hr_b1 : XR cA ad en (13 + 2 * b1) (S.1 b1).1 (S.1 b1).2 := hC.rb h_b1
    have hm_b1 := hr_b1.2.2.1
    refine lv_aload_n hx hb dX4_put_0 rfl (lv_at hl 0 rfl) ?_
    refine lv_iload_n hx hb dX4_put_1 rfl (lv_at hl 1 rfl) ?_
    refine xv_q (i := 0) (As := [.int (xI (b1 : Int))]) (rest := []) ⟨hx, hb, hml, hown, hts⟩ hl.1 (c_X4_builderOf_in l D cA n ad en (by omega) hC b1 (by omega)) k_X4_builderOf u_ml_RX4_52 hK hN hP (by omega) hC.1 rfl rfl rfl rfl (Nat.le_of_ble_eq_true rfl) ⟨Nat.le_of_ble_eq_true rfl, Nat.le_of_ble_eq_true rfl⟩ ⟨Nat.le_of_ble_eq_true rfl, Nat.le_of_ble_eq_true rfl⟩ dX4_put_2 ?_
    refine lv_astore (lv' := [(4, .ref (ad (13 + 2 * b1))), (0, .ref (ad 0)), (1, .int (xI (b1 : Int))), (2, .int (xI z2)), (3, .int (xI z3))]) hx hb dX4_put_5 hl (by decide) rfl (fun ls hl => ?_)
    refine lv_aload hx hb dX4_put_7 (lv_at hl 0 rfl) ?_
    refine lv_ifnonnull (tgt := 16) hx hb dX4_put_9 (by decide) ?_
    refine lv_iload_n hx hb dX4_put_16 rfl (lv_at hl 4 rfl) ?_
    refine xt_i (As := [.int (xI z3)]) (rest := []) ⟨hx, hb, hml, hown, hts⟩ hl.1 (c_X4_isSign l z3 (by omega)) k_X4_isSign u_ml_RX4_56 rfl rfl (Nat.le_of_ble_eq_true rfl) ⟨Nat.le_of_ble_eq_true rfl, Nat.le_of_ble_eq_true rfl⟩ ⟨Nat.le_of_ble_eq_true rfl, Nat.le_of_ble_eq_true rfl⟩ dX4_put_17 ?_
    refine x_ifb_ne (tgt := 27) hx hb dX4_put_20 (by decide)  (fun c_20 => ?_) (fun c_20 => ?_)
    · refine lv_aload hx hb dX4_put_27 (lv_at hl 0 rfl) ?_
      refine lv_iload_n hx hb dX4_put_29 rfl (lv_at hl 3 rfl) ?_
      refine xv_i (i := 13 + 2 * b1) (As := [.int (xI z2)]) (rest := []) ⟨hx, hb, hml, hown, hts⟩ hl.1 (c_X2_holds l D cA n ad en (by omega) hr_b1 z2 (by omega)) k_X2_holds u_ml_RX4_94 hK hN hP (by omega) hr_b1.1 rfl rfl rfl rfl (Nat.le_of_ble_eq_true rfl) ⟨Nat.le_of_ble_eq_true rfl, Nat.le_of_ble_eq_true rfl⟩ ⟨Nat.le_of_ble_eq_true rfl, Nat.le_of_ble_eq_true rfl⟩ dX4_put_30 ?_
      refine x_ifb_ne (tgt := 40) hx hb dX4_put_33 (by decide)  (fun c_33 => ?_) (fun c_33 => ?_)
      · refine lv_aload hx hb dX4_put_40 (lv_at hl 0 rfl) ?_
        refine lv_iload_n hx hb dX4_put_42 rfl (lv_at hl 3 rfl) ?_
        refine xv_i (i := 13 + 2 * b1) (As := [.int (xI z2)]) (rest := []) ⟨hx, hb, hml, hown, hts⟩ hl.1 (c_X2_signThere l D cA n ad en (by omega) hr_b1 z2 (by omega)) k_X2_signThere u_ml_RX4_111 hK hN hP (by omega) hr_b1.1 rfl rfl rfl rfl (Nat.le_of_ble_eq_true rfl) ⟨Nat.le_of_ble_eq_true rfl, Nat.le_of_ble_eq_true rfl⟩ ⟨Nat.le_of_ble_eq_true rfl, Nat.le_of_ble_eq_true rfl⟩ dX4_put_43 ?_
        refine lv_istore (lv' := [(5, .int (xI (((S.1 b1).2) (Int.toNat z2)))), (4, .ref (ad (13 + 2 * b1))), (0, .ref (ad 0)), (1, .int (xI (b1 : Int))), (2, .int (xI z2)), (3, .int (xI z3))]) hx hb dX4_put_46 hl (by decide) rfl (fun ls hl => ?_)
        refine lv_aload hx hb dX4_put_48 (lv_at hl 1 rfl) ?_
        refine lv_iload_n hx hb dX4_put_50 rfl (lv_at hl 4 rfl) ?_
        refine lv_iload_n hx hb dX4_put_51 rfl (lv_at hl 5 rfl) ?_
        refine xm_v (i := 13 + 2 * b1) (As := [.int (xI z2), .int (xI z3)]) (rest := []) ⟨hx, hb, hml, hown, hts⟩ hl.1 (c_X2_write l D cA n ad en _ (by omega) hr_b1 z2 z3 (by omega) (by omega)) k_X2_write u_ml_RX4_115 hK hN hP (by omega) hr_b1.1 rfl rfl rfl rfl (Nat.le_of_ble_eq_true rfl) ⟨Nat.le_of_ble_eq_true rfl, Nat.le_of_ble_eq_true rfl⟩ ⟨Nat.le_of_ble_eq_true rfl, Nat.le_of_ble_eq_true rfl⟩ dX4_put_52 hD hS hA (fun en1 H locs hp1 hP hS => ?_)
        obtain ⟨hx9, hob⟩ := hp1
        have hC9 := hC.builder h_b1 (hob.mo (by omega) (by omega)) hx9
        have ho : xO 0 53 en en1 := hob.mo (by omega) (by omega)
        refine lv_iload hx hb dX4_put_55 (lv_at hl 0 rfl) ?_
        exact xe_i hx hb hrt hlocks hP hS ((by unfold am_put; simp only [Int.toNat_natCast]; rw [sp_if_f (by omega), sp_if_f (by omega), sp_if_f (by omega)]; exact ⟨rfl, hC9, ho⟩)) dX4_put_57
      · refine x_sipush hx hb dX4_put_36 (by decide +kernel) ?_
        exact xe_i hx hb hrt hlocks hP hS ((by unfold am_put; simp only [Int.toNat_natCast]; rw [sp_if_f (by omega), sp_if_f (by omega), sp_if_t (by omega)]; exact ⟨rfl, hC, xO.rf⟩)) dX4_put_39
    · refine x_sipush hx hb dX4_put_23 (by decide +kernel) ?_
      exact xe_i hx hb hrt hlocks hP hS ((by unfold am_put; simp only [Int.toNat_natCast]; rw [sp_if_f (by omega), sp_if_t (by omega)]; exact ⟨rfl, hC, xO.rf⟩)) dX4_put_26
  · refine lv_aload_n hx hb dX4_put_0 rfl (lv_at hl 0 rfl) ?_
    refine lv_iload_n hx hb dX4_put_1 rfl (lv_at hl 1 rfl) ?_
    refine xv_q (i := 0) (As := [.int (xI z1)]) (rest := []) ⟨hx, hb, hml, hown, hts⟩ hl.1 (c_X4_builderOf_out l D cA n ad en (by omega) hC z1 (by omega) (by omega)) k_X4_builderOf u_ml_RX4_52 hK hN hP (by omega) hC.1 rfl rfl rfl rfl (Nat.le_of_ble_eq_true rfl) ⟨Nat.le_of_ble_eq_true rfl, Nat.le_of_ble_eq_true rfl⟩ ⟨Nat.le_of_ble_eq_true rfl, Nat.le_of_ble_eq_true rfl⟩ dX4_put_2 ?_
    refine lv_astoreN (lv' := [(4, .null), (0, .ref (ad 0)), (1, .int (xI z1)), (2, .int (xI z2)), (3, .int (xI z3))]) hx hb dX4_put_5 hl (by decide) rfl (fun ls hl => ?_)
    refine lv_aloadN hx hb dX4_put_7 (lv_at hl 0 rfl) ?_
    refine lv_ifnonnullN hx hb dX4_put_9 ?_
    refine x_sipush hx hb dX4_put_12 (by decide +kernel) ?_
    exact xe_i hx hb hrt hlocks hP hS ((by unfold am_put; rw [sp_if_t (by omega)]; exact ⟨rfl, hC, xO.rf⟩)) dX4_put_15

set_option maxRecDepth 20000 in
theorem c_X4_length (l : Launch) (D : va_G) (cA : Nat → ClassId) (n : Nat) (ad : Nat → Nat) (en : Nat → va_E) (sz : Nat) (hn : 53 ≤ n) {S : xSt} (hC : CW cA ad en S) (z1 : Int) (hz1 : -2147483648 ≤ z1 ∧ z1 ≤ 2147483647) (z2 : Int) (hz2 : -2147483648 ≤ z2 ∧ z2 ≤ 2147483647) : Met l yX4_length (Cond.code yX4_length cX4_length 5 (some .int) :: xU) (xrm 2 43) (va_Pc [.ref (ad 0), .int (xI z1), .int (xI z2)] (xM D cA n ad en sz)) (va_Qi (fun r u => r = xI (am_length S z1 z2).1 ∧ CW cA ad u (am_length S z1 z2).2 ∧ xO 0 53 en u) (xE D n ad) (xA n ad sz)) 0 0 (xA n ad sz) := by
  refine xmet (by decide) (Nat.le_of_ble_eq_true rfl) (fun p e s mm args below meth c ls hx hb hrt hml hown hts hlocks hname hB hl => ?_)
  obtain ⟨⟨hP, hK, hN⟩, hsz, hDt⟩ := hB
  have hD : xD (xA n ad sz) n ad := xD_self hDt sz
  have hA : ∀ q : Nat, s.heap.size ≤ q → xA n ad sz q := fun q h => Or.inr (by rw [← hsz]; exact h)
  have hS : va_S (xA n ad sz) s.heap s.heap [] := va_S.rf
  have hown : s.vm.findClass RX4 = some mm.cls := hown
  have hl : lv_has ls 5 [(0, .ref (ad 0)), (1, .int (xI z1)), (2, .int (xI z2))] := hl
  rcases Classical.em (0 ≤ z1 ∧ z1 < 4) with hx_z1 | hx_z1
  · obtain ⟨b1, rfl⟩ : ∃ q : Nat, z1 = (q : Int) := ⟨z1.toNat, by omega⟩
    have h_b1 : b1 < 4 := by omega
    have hr_b1 : XR cA ad en (13 + 2 * b1) (S.1 b1).1 (S.1 b1).2 := hC.rb h_b1
    have hm_b1 := hr_b1.2.2.1
    refine lv_aload_n hx hb dX4_length_0 rfl (lv_at hl 0 rfl) ?_
    refine lv_iload_n hx hb dX4_length_1 rfl (lv_at hl 1 rfl) ?_
    refine xv_q (i := 0) (As := [.int (xI (b1 : Int))]) (rest := []) ⟨hx, hb, hml, hown, hts⟩ hl.1 (c_X4_builderOf_in l D cA n ad en (by omega) hC b1 (by omega)) k_X4_builderOf u_ml_RX4_52 hK hN hP (by omega) hC.1 rfl rfl rfl rfl (Nat.le_of_ble_eq_true rfl) ⟨Nat.le_of_ble_eq_true rfl, Nat.le_of_ble_eq_true rfl⟩ ⟨Nat.le_of_ble_eq_true rfl, Nat.le_of_ble_eq_true rfl⟩ dX4_length_2 ?_
    refine lv_astore_n (lv' := [(3, .ref (ad (13 + 2 * b1))), (0, .ref (ad 0)), (1, .int (xI (b1 : Int))), (2, .int (xI z2))]) hx hb dX4_length_5 rfl hl (by decide) rfl (fun ls hl => ?_)
    refine lv_aload_n hx hb dX4_length_6 rfl (lv_at hl 0 rfl) ?_
    refine lv_ifnonnull (tgt := 14) hx hb dX4_length_7 (by decide) ?_
    refine lv_iload_n hx hb dX4_length_14 rfl (lv_at hl 3 rfl) ?_
    refine x_if_ge (tgt := 22) hx hb dX4_length_15 (by decide) (by omega) (fun c_15 => ?_) (fun c_15 => ?_)
    · refine lv_iload_n hx hb dX4_length_22 rfl (lv_at hl 3 rfl) ?_
      refine x_sipush hx hb dX4_length_23 (by decide +kernel) ?_
      refine x_icmp_le (tgt := 33) hx hb dX4_length_26 (by decide) (by omega) (fun c_26 => ?_) (fun c_26 => ?_)
      · refine lv_aload_n hx hb dX4_length_33 rfl (lv_at hl 0 rfl) ?_
        refine x_getn (T := TX2) (N := 2) hx hb hts uX2 hown hN hK hP (i := 13 + 2 * b1) (by omega) hr_b1.1 rfl 1 (by decide) (by simp only [xNest, List.mem_cons]; exact Or.inr (Or.inl rfl)) rfl dX4_length_34 ?_
        refine lv_istore (lv' := [(4, .int (xI ((S.1 b1).1 : Int))), (3, .ref (ad (13 + 2 * b1))), (0, .ref (ad 0)), (1, .int (xI (b1 : Int))), (2, .int (xI z2))]) hx hb dX4_length_37 hl (by decide) rfl (fun ls hl => ?_)
        refine lv_aload_n hx hb dX4_length_39 rfl (lv_at hl 1 rfl) ?_
        refine lv_iload_n hx hb dX4_length_40 rfl (lv_at hl 4 rfl) ?_
        refine xm_v (i := 13 + 2 * b1) (As := [.int (xI z2)]) (rest := []) ⟨hx, hb, hml, hown, hts⟩ hl.1 (c_X2_resize l D cA n ad en _ (by omega) hr_b1 z2 (by omega)) k_X2_resize u_ml_RX4_119 hK hN hP (by omega) hr_b1.1 rfl rfl rfl rfl (Nat.le_of_ble_eq_true rfl) ⟨Nat.le_of_ble_eq_true rfl, Nat.le_of_ble_eq_true rfl⟩ ⟨Nat.le_of_ble_eq_true rfl, Nat.le_of_ble_eq_true rfl⟩ dX4_length_41 hD hS hA (fun en1 H locs hp1 hP hS => ?_)
        obtain ⟨hx9, hob⟩ := hp1
        have hC9 := hC.builder h_b1 (hob.mo (by omega) (by omega)) hx9
        have ho : xO 0 53 en en1 := hob.mo (by omega) (by omega)
        refine lv_iload hx hb dX4_length_44 (lv_at hl 0 rfl) ?_
        exact xe_i hx hb hrt hlocks hP hS ((by unfold am_length; simp only [Int.toNat_natCast]; rw [sp_if_f (by omega), sp_if_f (by omega), sp_if_f (by omega)]; exact ⟨rfl, hC9, ho⟩)) dX4_length_46
      · refine x_sipush hx hb dX4_length_29 (by decide +kernel) ?_
        exact xe_i hx hb hrt hlocks hP hS ((by unfold am_length; simp only [Int.toNat_natCast]; rw [sp_if_f (by omega), sp_if_f (by omega), sp_if_t (by omega)]; exact ⟨rfl, hC, xO.rf⟩)) dX4_length_32
    · refine x_sipush hx hb dX4_length_18 (by decide +kernel) ?_
      exact xe_i hx hb hrt hlocks hP hS ((by unfold am_length; simp only [Int.toNat_natCast]; rw [sp_if_f (by omega), sp_if_t (by omega)]; exact ⟨rfl, hC, xO.rf⟩)) dX4_length_21
  · refine lv_aload_n hx hb dX4_length_0 rfl (lv_at hl 0 rfl) ?_
    refine lv_iload_n hx hb dX4_length_1 rfl (lv_at hl 1 rfl) ?_
    refine xv_q (i := 0) (As := [.int (xI z1)]) (rest := []) ⟨hx, hb, hml, hown, hts⟩ hl.1 (c_X4_builderOf_out l D cA n ad en (by omega) hC z1 (by omega) (by omega)) k_X4_builderOf u_ml_RX4_52 hK hN hP (by omega) hC.1 rfl rfl rfl rfl (Nat.le_of_ble_eq_true rfl) ⟨Nat.le_of_ble_eq_true rfl, Nat.le_of_ble_eq_true rfl⟩ ⟨Nat.le_of_ble_eq_true rfl, Nat.le_of_ble_eq_true rfl⟩ dX4_length_2 ?_
    refine lv_astore_nN (lv' := [(3, .null), (0, .ref (ad 0)), (1, .int (xI z1)), (2, .int (xI z2))]) hx hb dX4_length_5 rfl hl (by decide) rfl (fun ls hl => ?_)
    refine lv_aload_nN hx hb dX4_length_6 rfl (lv_at hl 0 rfl) ?_
    refine lv_ifnonnullN hx hb dX4_length_7 ?_
    refine x_sipush hx hb dX4_length_10 (by decide +kernel) ?_
    exact xe_i hx hb hrt hlocks hP hS ((by unfold am_length; rw [sp_if_t (by omega)]; exact ⟨rfl, hC, xO.rf⟩)) dX4_length_13

set_option maxRecDepth 20000 in
theorem c_X4_at (l : Launch) (D : va_G) (cA : Nat → ClassId) (n : Nat) (ad : Nat → Nat) (en : Nat → va_E) (hn : 53 ≤ n) {S : xSt} (hC : CW cA ad en S) (z1 : Int) (hz1 : -2147483648 ≤ z1 ∧ z1 ≤ 2147483647) (z2 : Int) (hz2 : -2147483648 ≤ z2 ∧ z2 ≤ 2147483647) : Met l yX4_at (Cond.code yX4_at cX4_at 4 (some .int) :: xU) (xrm 2 42) (va_Pc [.ref (ad 0), .int (xI z1), .int (xI z2)] (xB D cA n ad en)) (vp_Si (fun z => z = xI (am_at S z1 z2))) 0 0 (fun _ => False) := by
  refine xmet (by decide) (Nat.le_of_ble_eq_true rfl) (fun p e s mm args below meth c ls hx hb hrt hml hown hts hlocks hname hB hl => ?_)
  obtain ⟨hP, hK, hN⟩ := hB
  have hl : lv_has ls 4 [(0, .ref (ad 0)), (1, .int (xI z1)), (2, .int (xI z2))] := hl
  rcases Classical.em (0 ≤ z1 ∧ z1 < 4) with hx_z1 | hx_z1
  · obtain ⟨b1, rfl⟩ : ∃ q : Nat, z1 = (q : Int) := ⟨z1.toNat, by omega⟩
    have h_b1 : b1 < 4 := by omega
    have hr_b1 : XR cA ad en (13 + 2 * b1) (S.1 b1).1 (S.1 b1).2 := hC.rb h_b1
    have hm_b1 := hr_b1.2.2.1
    refine lv_aload_n hx hb dX4_at_0 rfl (lv_at hl 0 rfl) ?_
    refine lv_iload_n hx hb dX4_at_1 rfl (lv_at hl 1 rfl) ?_
    refine xv_q (i := 0) (As := [.int (xI (b1 : Int))]) (rest := []) ⟨hx, hb, hml, hown, hts⟩ hl.1 (c_X4_builderOf_in l D cA n ad en (by omega) hC b1 (by omega)) k_X4_builderOf u_ml_RX4_52 hK hN hP (by omega) hC.1 rfl rfl rfl rfl (Nat.le_of_ble_eq_true rfl) ⟨Nat.le_of_ble_eq_true rfl, Nat.le_of_ble_eq_true rfl⟩ ⟨Nat.le_of_ble_eq_true rfl, Nat.le_of_ble_eq_true rfl⟩ dX4_at_2 ?_
    refine lv_astore_n (lv' := [(3, .ref (ad (13 + 2 * b1))), (0, .ref (ad 0)), (1, .int (xI (b1 : Int))), (2, .int (xI z2))]) hx hb dX4_at_5 rfl hl (by decide) rfl (fun ls hl => ?_)
    refine lv_aload_n hx hb dX4_at_6 rfl (lv_at hl 0 rfl) ?_
    refine lv_ifnonnull (tgt := 14) hx hb dX4_at_7 (by decide) ?_
    refine lv_aload_n hx hb dX4_at_14 rfl (lv_at hl 0 rfl) ?_
    refine lv_iload_n hx hb dX4_at_15 rfl (lv_at hl 3 rfl) ?_
    refine xv_i (i := 13 + 2 * b1) (As := [.int (xI z2)]) (rest := []) ⟨hx, hb, hml, hown, hts⟩ hl.1 (c_X2_holds l D cA n ad en (by omega) hr_b1 z2 (by omega)) k_X2_holds u_ml_RX4_94 hK hN hP (by omega) hr_b1.1 rfl rfl rfl rfl (Nat.le_of_ble_eq_true rfl) ⟨Nat.le_of_ble_eq_true rfl, Nat.le_of_ble_eq_true rfl⟩ ⟨Nat.le_of_ble_eq_true rfl, Nat.le_of_ble_eq_true rfl⟩ dX4_at_16 ?_
    refine x_ifb_eq (tgt := 30) hx hb dX4_at_19 (by decide)  (fun c_19 => ?_) (fun c_19 => ?_)
    · refine x_sipush hx hb dX4_at_30 (by decide +kernel) ?_
      exact xr_i hx hb hrt hlocks ((by unfold am_at; simp only [Int.toNat_natCast]; rw [sp_if_f (by omega), sp_if_t (by omega)])) dX4_at_33
    · refine lv_aload_n hx hb dX4_at_22 rfl (lv_at hl 0 rfl) ?_
      refine lv_iload_n hx hb dX4_at_23 rfl (lv_at hl 3 rfl) ?_
      refine xv_i (i := 13 + 2 * b1) (As := [.int (xI z2)]) (rest := []) ⟨hx, hb, hml, hown, hts⟩ hl.1 (c_X2_signThere l D cA n ad en (by omega) hr_b1 z2 (by omega)) k_X2_signThere u_ml_RX4_111 hK hN hP (by omega) hr_b1.1 rfl rfl rfl rfl (Nat.le_of_ble_eq_true rfl) ⟨Nat.le_of_ble_eq_true rfl, Nat.le_of_ble_eq_true rfl⟩ ⟨Nat.le_of_ble_eq_true rfl, Nat.le_of_ble_eq_true rfl⟩ dX4_at_24 ?_
      refine lv_goto (tgt := 33) hx hb dX4_at_27 (by decide) ?_
      exact xr_i hx hb hrt hlocks ((by unfold am_at; simp only [Int.toNat_natCast]; rw [sp_if_f (by omega), sp_if_f (by omega)])) dX4_at_33
  · refine lv_aload_n hx hb dX4_at_0 rfl (lv_at hl 0 rfl) ?_
    refine lv_iload_n hx hb dX4_at_1 rfl (lv_at hl 1 rfl) ?_
    refine xv_q (i := 0) (As := [.int (xI z1)]) (rest := []) ⟨hx, hb, hml, hown, hts⟩ hl.1 (c_X4_builderOf_out l D cA n ad en (by omega) hC z1 (by omega) (by omega)) k_X4_builderOf u_ml_RX4_52 hK hN hP (by omega) hC.1 rfl rfl rfl rfl (Nat.le_of_ble_eq_true rfl) ⟨Nat.le_of_ble_eq_true rfl, Nat.le_of_ble_eq_true rfl⟩ ⟨Nat.le_of_ble_eq_true rfl, Nat.le_of_ble_eq_true rfl⟩ dX4_at_2 ?_
    refine lv_astore_nN (lv' := [(3, .null), (0, .ref (ad 0)), (1, .int (xI z1)), (2, .int (xI z2))]) hx hb dX4_at_5 rfl hl (by decide) rfl (fun ls hl => ?_)
    refine lv_aload_nN hx hb dX4_at_6 rfl (lv_at hl 0 rfl) ?_
    refine lv_ifnonnullN hx hb dX4_at_7 ?_
    refine x_sipush hx hb dX4_at_10 (by decide +kernel) ?_
    exact xr_i hx hb hrt hlocks ((by unfold am_at; rw [sp_if_t (by omega)])) dX4_at_13

set_option maxRecDepth 20000 in
theorem c_X4_size (l : Launch) (D : va_G) (cA : Nat → ClassId) (n : Nat) (ad : Nat → Nat) (en : Nat → va_E) (hn : 53 ≤ n) {S : xSt} (hC : CW cA ad en S) (z1 : Int) (hz1 : -2147483648 ≤ z1 ∧ z1 ≤ 2147483647) : Met l yX4_size (Cond.code yX4_size cX4_size 3 (some .int) :: xU) (xrm 1 21) (va_Pc [.ref (ad 0), .int (xI z1)] (xB D cA n ad en)) (vp_Si (fun z => z = xI (am_size S z1))) 0 0 (fun _ => False) := by
  refine xmet (by decide) (Nat.le_of_ble_eq_true rfl) (fun p e s mm args below meth c ls hx hb hrt hml hown hts hlocks hname hB hl => ?_)
  obtain ⟨hP, hK, hN⟩ := hB
  have hl : lv_has ls 3 [(0, .ref (ad 0)), (1, .int (xI z1))] := hl
  rcases Classical.em (0 ≤ z1 ∧ z1 < 4) with hx_z1 | hx_z1
  · obtain ⟨b1, rfl⟩ : ∃ q : Nat, z1 = (q : Int) := ⟨z1.toNat, by omega⟩
    have h_b1 : b1 < 4 := by omega
    have hr_b1 : XR cA ad en (13 + 2 * b1) (S.1 b1).1 (S.1 b1).2 := hC.rb h_b1
    have hm_b1 := hr_b1.2.2.1
    refine lv_aload_n hx hb dX4_size_0 rfl (lv_at hl 0 rfl) ?_
    refine lv_iload_n hx hb dX4_size_1 rfl (lv_at hl 1 rfl) ?_
    refine xv_q (i := 0) (As := [.int (xI (b1 : Int))]) (rest := []) ⟨hx, hb, hml, hown, hts⟩ hl.1 (c_X4_builderOf_in l D cA n ad en (by omega) hC b1 (by omega)) k_X4_builderOf u_ml_RX4_52 hK hN hP (by omega) hC.1 rfl rfl rfl rfl (Nat.le_of_ble_eq_true rfl) ⟨Nat.le_of_ble_eq_true rfl, Nat.le_of_ble_eq_true rfl⟩ ⟨Nat.le_of_ble_eq_true rfl, Nat.le_of_ble_eq_true rfl⟩ dX4_size_2 ?_
    refine lv_astore_n (lv' := [(2, .ref (ad (13 + 2 * b1))), (0, .ref (ad 0)), (1, .int (xI (b1 : Int)))]) hx hb dX4_size_5 rfl hl (by decide) rfl (fun ls hl => ?_)
    refine lv_aload_n hx hb dX4_size_6 rfl (lv_at hl 0 rfl) ?_
    refine lv_ifnonnull (tgt := 16) hx hb dX4_size_7 (by decide) ?_
    refine lv_aload_n hx hb dX4_size_16 rfl (lv_at hl 0 rfl) ?_
    refine x_getn (T := TX2) (N := 2) hx hb hts uX2 hown hN hK hP (i := 13 + 2 * b1) (by omega) hr_b1.1 rfl 1 (by decide) (by simp only [xNest, List.mem_cons]; exact Or.inr (Or.inl rfl)) rfl dX4_size_17 ?_
    exact xr_i hx hb hrt hlocks ((by unfold am_size; simp only [Int.toNat_natCast]; rw [sp_if_f (by omega)])) dX4_size_20
  · refine lv_aload_n hx hb dX4_size_0 rfl (lv_at hl 0 rfl) ?_
    refine lv_iload_n hx hb dX4_size_1 rfl (lv_at hl 1 rfl) ?_
    refine xv_q (i := 0) (As := [.int (xI z1)]) (rest := []) ⟨hx, hb, hml, hown, hts⟩ hl.1 (c_X4_builderOf_out l D cA n ad en (by omega) hC z1 (by omega) (by omega)) k_X4_builderOf u_ml_RX4_52 hK hN hP (by omega) hC.1 rfl rfl rfl rfl (Nat.le_of_ble_eq_true rfl) ⟨Nat.le_of_ble_eq_true rfl, Nat.le_of_ble_eq_true rfl⟩ ⟨Nat.le_of_ble_eq_true rfl, Nat.le_of_ble_eq_true rfl⟩ dX4_size_2 ?_
    refine lv_astore_nN (lv' := [(2, .null), (0, .ref (ad 0)), (1, .int (xI z1))]) hx hb dX4_size_5 rfl hl (by decide) rfl (fun ls hl => ?_)
    refine lv_aload_nN hx hb dX4_size_6 rfl (lv_at hl 0 rfl) ?_
    refine lv_ifnonnullN hx hb dX4_size_7 ?_
    refine x_sipush hx hb dX4_size_10 (by decide +kernel) ?_
    refine lv_goto (tgt := 20) hx hb dX4_size_13 (by decide) ?_
    exact xr_i hx hb hrt hlocks ((by unfold am_size; rw [sp_if_t (by omega)])) dX4_size_20

set_option maxRecDepth 20000 in
theorem c_X4_first (l : Launch) (D : va_G) (cA : Nat → ClassId) (n : Nat) (ad : Nat → Nat) (en : Nat → va_E) (hn : 53 ≤ n) {S : xSt} (hC : CW cA ad en S) (z1 : Int) (hz1 : -2147483648 ≤ z1 ∧ z1 ≤ 2147483647) (z2 : Int) (hz2 : -2147483648 ≤ z2 ∧ z2 ≤ 2147483647) (z3 : Int) (hz3 : -2147483648 ≤ z3 ∧ z3 ≤ 2147483647) : Met l yX4_first (Cond.code yX4_first cX4_first 6 (some .int) :: xU) (xrm 5 112) (va_Pc [.ref (ad 0), .int (xI z1), .int (xI z2), .int (xI z3)] (xB D cA n ad en)) (vp_Si (fun z => z = xI (am_first S z1 z2 z3))) 0 0 (fun _ => False) := by
  refine xmet (by decide) (Nat.le_of_ble_eq_true rfl) (fun p e s mm args below meth c ls hx hb hrt hml hown hts hlocks hname hB hl => ?_)
  obtain ⟨hP, hK, hN⟩ := hB
  have hl : lv_has ls 6 [(0, .ref (ad 0)), (1, .int (xI z1)), (2, .int (xI z2)), (3, .int (xI z3))] := hl
  rcases Classical.em (0 ≤ z1 ∧ z1 < 4) with hx_z1 | hx_z1
  · obtain ⟨b1, rfl⟩ : ∃ q : Nat, z1 = (q : Int) := ⟨z1.toNat, by omega⟩
    have h_b1 : b1 < 4 := by omega
    rcases Classical.em (0 ≤ z2 ∧ z2 < 8) with hx_z2 | hx_z2
    · obtain ⟨t2, rfl⟩ : ∃ q : Nat, z2 = (q : Int) := ⟨z2.toNat, by omega⟩
      have h_t2 : t2 < 8 := by omega
      rcases hS_t2 : S.2.1 t2 with _ | r_t2
      · have hr_b1 : XR cA ad en (13 + 2 * b1) (S.1 b1).1 (S.1 b1).2 := hC.rb h_b1
        have hm_b1 := hr_b1.2.2.1
        have hT_t2 : XT cA ad en (21 + 3 * t2) none := by have q : XT cA ad en (21 + 3 * t2) (S.2.1 t2) := hC.rt h_t2; rw [hS_t2] at q; exact q
        refine lv_aload_n hx hb dX4_first_0 rfl (lv_at hl 0 rfl) ?_
        refine lv_iload_n hx hb dX4_first_1 rfl (lv_at hl 1 rfl) ?_
        refine xv_q (i := 0) (As := [.int (xI (b1 : Int))]) (rest := []) ⟨hx, hb, hml, hown, hts⟩ hl.1 (c_X4_builderOf_in l D cA n ad en (by omega) hC b1 (by omega)) k_X4_builderOf u_ml_RX4_52 hK hN hP (by omega) hC.1 rfl rfl rfl rfl (Nat.le_of_ble_eq_true rfl) ⟨Nat.le_of_ble_eq_true rfl, Nat.le_of_ble_eq_true rfl⟩ ⟨Nat.le_of_ble_eq_true rfl, Nat.le_of_ble_eq_true rfl⟩ dX4_first_2 ?_
        refine lv_astore (lv' := [(4, .ref (ad (13 + 2 * b1))), (0, .ref (ad 0)), (1, .int (xI (b1 : Int))), (2, .int (xI (t2 : Int))), (3, .int (xI z3))]) hx hb dX4_first_5 hl (by decide) rfl (fun ls hl => ?_)
        refine lv_aload_n hx hb dX4_first_7 rfl (lv_at hl 1 rfl) ?_
        refine lv_iload_n hx hb dX4_first_8 rfl (lv_at hl 3 rfl) ?_
        refine xv_q (i := 0) (As := [.int (xI (t2 : Int))]) (rest := []) ⟨hx, hb, hml, hown, hts⟩ hl.1 (c_X4_textOf_in l D cA n ad en (by omega) hC t2 (by omega)) k_X4_textOf u_ml_RX4_97 hK hN hP (by omega) hC.1 rfl rfl rfl rfl (Nat.le_of_ble_eq_true rfl) ⟨Nat.le_of_ble_eq_true rfl, Nat.le_of_ble_eq_true rfl⟩ ⟨Nat.le_of_ble_eq_true rfl, Nat.le_of_ble_eq_true rfl⟩ dX4_first_9 ?_
        refine lv_astore (lv' := [(5, .ref (ad (21 + 3 * t2))), (4, .ref (ad (13 + 2 * b1))), (0, .ref (ad 0)), (1, .int (xI (b1 : Int))), (2, .int (xI (t2 : Int))), (3, .int (xI z3))]) hx hb dX4_first_12 hl (by decide) rfl (fun ls hl => ?_)
        refine lv_aload hx hb dX4_first_14 (lv_at hl 1 rfl) ?_
        refine lv_ifnull hx hb dX4_first_16 ?_
        refine lv_aload hx hb dX4_first_19 (lv_at hl 0 rfl) ?_
        refine lv_ifnonnull (tgt := 28) hx hb dX4_first_21 (by decide) ?_
        refine lv_aload hx hb dX4_first_28 (lv_at hl 0 rfl) ?_
        refine x_getn (T := TX3) (N := 2) hx hb hts uX3 hown hN hK hP (i := 21 + 3 * t2) (by omega) hT_t2.1 rfl 1 (by decide) (by simp only [xNest, List.mem_cons]; exact Or.inr (Or.inr (Or.inr (Or.inr (Or.inr (Or.inr (Or.inl rfl))))))) rfl dX4_first_30 ?_
        refine x_if_eq (tgt := 42) hx hb dX4_first_33 (by decide) (by omega) (fun c_33 => absurd c_33 (by omega)) (fun c_33 => ?_)
        refine x_sipush hx hb dX4_first_36 (by decide +kernel) ?_
        refine lv_goto (tgt := 53) hx hb dX4_first_39 (by decide) ?_
        exact xr_i hx hb hrt hlocks ((by unfold am_first; simp only [Int.toNat_natCast]; rw [sp_if_f (by omega), sp_if_t (by simp [hS_t2])])) dX4_first_53
      · have hr_b1 : XR cA ad en (13 + 2 * b1) (S.1 b1).1 (S.1 b1).2 := hC.rb h_b1
        have hm_b1 := hr_b1.2.2.1
        have hT_t2 : XT cA ad en (21 + 3 * t2) (some r_t2) := by have q : XT cA ad en (21 + 3 * t2) (S.2.1 t2) := hC.rt h_t2; rw [hS_t2] at q; exact q
        have hr_t2 := hT_t2.2
        have hm_t2 := hr_t2.2.2.1
        refine lv_aload_n hx hb dX4_first_0 rfl (lv_at hl 0 rfl) ?_
        refine lv_iload_n hx hb dX4_first_1 rfl (lv_at hl 1 rfl) ?_
        refine xv_q (i := 0) (As := [.int (xI (b1 : Int))]) (rest := []) ⟨hx, hb, hml, hown, hts⟩ hl.1 (c_X4_builderOf_in l D cA n ad en (by omega) hC b1 (by omega)) k_X4_builderOf u_ml_RX4_52 hK hN hP (by omega) hC.1 rfl rfl rfl rfl (Nat.le_of_ble_eq_true rfl) ⟨Nat.le_of_ble_eq_true rfl, Nat.le_of_ble_eq_true rfl⟩ ⟨Nat.le_of_ble_eq_true rfl, Nat.le_of_ble_eq_true rfl⟩ dX4_first_2 ?_
        refine lv_astore (lv' := [(4, .ref (ad (13 + 2 * b1))), (0, .ref (ad 0)), (1, .int (xI (b1 : Int))), (2, .int (xI (t2 : Int))), (3, .int (xI z3))]) hx hb dX4_first_5 hl (by decide) rfl (fun ls hl => ?_)
        refine lv_aload_n hx hb dX4_first_7 rfl (lv_at hl 1 rfl) ?_
        refine lv_iload_n hx hb dX4_first_8 rfl (lv_at hl 3 rfl) ?_
        refine xv_q (i := 0) (As := [.int (xI (t2 : Int))]) (rest := []) ⟨hx, hb, hml, hown, hts⟩ hl.1 (c_X4_textOf_in l D cA n ad en (by omega) hC t2 (by omega)) k_X4_textOf u_ml_RX4_97 hK hN hP (by omega) hC.1 rfl rfl rfl rfl (Nat.le_of_ble_eq_true rfl) ⟨Nat.le_of_ble_eq_true rfl, Nat.le_of_ble_eq_true rfl⟩ ⟨Nat.le_of_ble_eq_true rfl, Nat.le_of_ble_eq_true rfl⟩ dX4_first_9 ?_
        refine lv_astore (lv' := [(5, .ref (ad (21 + 3 * t2))), (4, .ref (ad (13 + 2 * b1))), (0, .ref (ad 0)), (1, .int (xI (b1 : Int))), (2, .int (xI (t2 : Int))), (3, .int (xI z3))]) hx hb dX4_first_12 hl (by decide) rfl (fun ls hl => ?_)
        refine lv_aload hx hb dX4_first_14 (lv_at hl 1 rfl) ?_
        refine lv_ifnull hx hb dX4_first_16 ?_
        refine lv_aload hx hb dX4_first_19 (lv_at hl 0 rfl) ?_
        refine lv_ifnonnull (tgt := 28) hx hb dX4_first_21 (by decide) ?_
        refine lv_aload hx hb dX4_first_28 (lv_at hl 0 rfl) ?_
        refine x_getn (T := TX3) (N := 2) hx hb hts uX3 hown hN hK hP (i := 21 + 3 * t2) (by omega) hT_t2.1 rfl 1 (by decide) (by simp only [xNest, List.mem_cons]; exact Or.inr (Or.inr (Or.inr (Or.inr (Or.inr (Or.inr (Or.inl rfl))))))) rfl dX4_first_30 ?_
        refine x_if_eq (tgt := 42) hx hb dX4_first_33 (by decide) (by omega) (fun c_33 => ?_) (fun c_33 => absurd c_33 (by omega))
        refine lv_aload hx hb dX4_first_42 (lv_at hl 1 rfl) ?_
        refine lv_aload hx hb dX4_first_44 (lv_at hl 0 rfl) ?_
        refine x_getn (T := TX3) (N := 2) hx hb hts uX3 hown hN hK hP (i := 21 + 3 * t2) (by omega) hT_t2.1 rfl 0 (by decide) (by simp only [xNest, List.mem_cons]; exact Or.inr (Or.inr (Or.inr (Or.inr (Or.inr (Or.inl rfl)))))) rfl dX4_first_46 ?_
        refine lv_iload_n hx hb dX4_first_49 rfl (lv_at hl 5 rfl) ?_
        refine xv_i (i := 13 + 2 * b1) (As := [.ref (ad (21 + 3 * t2 + 1)), .int (xI z3)]) (rest := []) ⟨hx, hb, hml, hown, hts⟩ hl.1 (c_X2_findForward l D cA n ad en (by omega) hr_b1 (by omega) hr_t2 z3 (by omega)) k_X2_findForward u_ml_RX4_122 hK hN hP (by omega) hr_b1.1 rfl rfl rfl rfl (Nat.le_of_ble_eq_true rfl) ⟨Nat.le_of_ble_eq_true rfl, Nat.le_of_ble_eq_true rfl⟩ ⟨Nat.le_of_ble_eq_true rfl, Nat.le_of_ble_eq_true rfl⟩ dX4_first_50 ?_
        exact xr_i hx hb hrt hlocks ((by unfold am_first; simp only [Int.toNat_natCast]; simp only [sp_get_s hS_t2]; rw [sp_if_f (by omega), sp_if_f (by simp [hS_t2])])) dX4_first_53
    · have hr_b1 : XR cA ad en (13 + 2 * b1) (S.1 b1).1 (S.1 b1).2 := hC.rb h_b1
      have hm_b1 := hr_b1.2.2.1
      refine lv_aload_n hx hb dX4_first_0 rfl (lv_at hl 0 rfl) ?_
      refine lv_iload_n hx hb dX4_first_1 rfl (lv_at hl 1 rfl) ?_
      refine xv_q (i := 0) (As := [.int (xI (b1 : Int))]) (rest := []) ⟨hx, hb, hml, hown, hts⟩ hl.1 (c_X4_builderOf_in l D cA n ad en (by omega) hC b1 (by omega)) k_X4_builderOf u_ml_RX4_52 hK hN hP (by omega) hC.1 rfl rfl rfl rfl (Nat.le_of_ble_eq_true rfl) ⟨Nat.le_of_ble_eq_true rfl, Nat.le_of_ble_eq_true rfl⟩ ⟨Nat.le_of_ble_eq_true rfl, Nat.le_of_ble_eq_true rfl⟩ dX4_first_2 ?_
      refine lv_astore (lv' := [(4, .ref (ad (13 + 2 * b1))), (0, .ref (ad 0)), (1, .int (xI (b1 : Int))), (2, .int (xI z2)), (3, .int (xI z3))]) hx hb dX4_first_5 hl (by decide) rfl (fun ls hl => ?_)
      refine lv_aload_n hx hb dX4_first_7 rfl (lv_at hl 1 rfl) ?_
      refine lv_iload_n hx hb dX4_first_8 rfl (lv_at hl 3 rfl) ?_
      refine xv_q (i := 0) (As := [.int (xI z2)]) (rest := []) ⟨hx, hb, hml, hown, hts⟩ hl.1 (c_X4_textOf_out l D cA n ad en (by omega) hC z2 (by omega) (by omega)) k_X4_textOf u_ml_RX4_97 hK hN hP (by omega) hC.1 rfl rfl rfl rfl (Nat.le_of_ble_eq_true rfl) ⟨Nat.le_of_ble_eq_true rfl, Nat.le_of_ble_eq_true rfl⟩ ⟨Nat.le_of_ble_eq_true rfl, Nat.le_of_ble_eq_true rfl⟩ dX4_first_9 ?_
      refine lv_astoreN (lv' := [(5, .null), (4, .ref (ad (13 + 2 * b1))), (0, .ref (ad 0)), (1, .int (xI (b1 : Int))), (2, .int (xI z2)), (3, .int (xI z3))]) hx hb dX4_first_12 hl (by decide) rfl (fun ls hl => ?_)
      refine lv_aload hx hb dX4_first_14 (lv_at hl 1 rfl) ?_
      refine lv_ifnull hx hb dX4_first_16 ?_
      refine lv_aloadN hx hb dX4_first_19 (lv_at hl 0 rfl) ?_
      refine lv_ifnonnullN hx hb dX4_first_21 ?_
      refine x_sipush hx hb dX4_first_24 (by decide +kernel) ?_
      exact xr_i hx hb hrt hlocks ((by unfold am_first; simp only [Int.toNat_natCast]; rw [sp_if_t (by omega)])) dX4_first_27
  · rcases Classical.em (0 ≤ z2 ∧ z2 < 8) with hx_z2 | hx_z2
    · obtain ⟨t2, rfl⟩ : ∃ q : Nat, z2 = (q : Int) := ⟨z2.toNat, by omega⟩
      have h_t2 : t2 < 8 := by omega
      rcases hS_t2 : S.2.1 t2 with _ | r_t2
      · have hT_t2 : XT cA ad en (21 + 3 * t2) none := by have q : XT cA ad en (21 + 3 * t2) (S.2.1 t2) := hC.rt h_t2; rw [hS_t2] at q; exact q
        refine lv_aload_n hx hb dX4_first_0 rfl (lv_at hl 0 rfl) ?_
        refine lv_iload_n hx hb dX4_first_1 rfl (lv_at hl 1 rfl) ?_
        refine xv_q (i := 0) (As := [.int (xI z1)]) (rest := []) ⟨hx, hb, hml, hown, hts⟩ hl.1 (c_X4_builderOf_out l D cA n ad en (by omega) hC z1 (by omega) (by omega)) k_X4_builderOf u_ml_RX4_52 hK hN hP (by omega) hC.1 rfl rfl rfl rfl (Nat.le_of_ble_eq_true rfl) ⟨Nat.le_of_ble_eq_true rfl, Nat.le_of_ble_eq_true rfl⟩ ⟨Nat.le_of_ble_eq_true rfl, Nat.le_of_ble_eq_true rfl⟩ dX4_first_2 ?_
        refine lv_astoreN (lv' := [(4, .null), (0, .ref (ad 0)), (1, .int (xI z1)), (2, .int (xI (t2 : Int))), (3, .int (xI z3))]) hx hb dX4_first_5 hl (by decide) rfl (fun ls hl => ?_)
        refine lv_aload_n hx hb dX4_first_7 rfl (lv_at hl 1 rfl) ?_
        refine lv_iload_n hx hb dX4_first_8 rfl (lv_at hl 3 rfl) ?_
        refine xv_q (i := 0) (As := [.int (xI (t2 : Int))]) (rest := []) ⟨hx, hb, hml, hown, hts⟩ hl.1 (c_X4_textOf_in l D cA n ad en (by omega) hC t2 (by omega)) k_X4_textOf u_ml_RX4_97 hK hN hP (by omega) hC.1 rfl rfl rfl rfl (Nat.le_of_ble_eq_true rfl) ⟨Nat.le_of_ble_eq_true rfl, Nat.le_of_ble_eq_true rfl⟩ ⟨Nat.le_of_ble_eq_true rfl, Nat.le_of_ble_eq_true rfl⟩ dX4_first_9 ?_
        refine lv_astore (lv' := [(5, .ref (ad (21 + 3 * t2))), (4, .null), (0, .ref (ad 0)), (1, .int (xI z1)), (2, .int (xI (t2 : Int))), (3, .int (xI z3))]) hx hb dX4_first_12 hl (by decide) rfl (fun ls hl => ?_)
        refine lv_aloadN hx hb dX4_first_14 (lv_at hl 1 rfl) ?_
        refine lv_ifnullN (tgt := 24) hx hb dX4_first_16 (by decide) ?_
        refine x_sipush hx hb dX4_first_24 (by decide +kernel) ?_
        exact xr_i hx hb hrt hlocks ((by unfold am_first; simp only [Int.toNat_natCast]; rw [sp_if_t (by omega)])) dX4_first_27
      · have hT_t2 : XT cA ad en (21 + 3 * t2) (some r_t2) := by have q : XT cA ad en (21 + 3 * t2) (S.2.1 t2) := hC.rt h_t2; rw [hS_t2] at q; exact q
        have hr_t2 := hT_t2.2
        have hm_t2 := hr_t2.2.2.1
        refine lv_aload_n hx hb dX4_first_0 rfl (lv_at hl 0 rfl) ?_
        refine lv_iload_n hx hb dX4_first_1 rfl (lv_at hl 1 rfl) ?_
        refine xv_q (i := 0) (As := [.int (xI z1)]) (rest := []) ⟨hx, hb, hml, hown, hts⟩ hl.1 (c_X4_builderOf_out l D cA n ad en (by omega) hC z1 (by omega) (by omega)) k_X4_builderOf u_ml_RX4_52 hK hN hP (by omega) hC.1 rfl rfl rfl rfl (Nat.le_of_ble_eq_true rfl) ⟨Nat.le_of_ble_eq_true rfl, Nat.le_of_ble_eq_true rfl⟩ ⟨Nat.le_of_ble_eq_true rfl, Nat.le_of_ble_eq_true rfl⟩ dX4_first_2 ?_
        refine lv_astoreN (lv' := [(4, .null), (0, .ref (ad 0)), (1, .int (xI z1)), (2, .int (xI (t2 : Int))), (3, .int (xI z3))]) hx hb dX4_first_5 hl (by decide) rfl (fun ls hl => ?_)
        refine lv_aload_n hx hb dX4_first_7 rfl (lv_at hl 1 rfl) ?_
        refine lv_iload_n hx hb dX4_first_8 rfl (lv_at hl 3 rfl) ?_
        refine xv_q (i := 0) (As := [.int (xI (t2 : Int))]) (rest := []) ⟨hx, hb, hml, hown, hts⟩ hl.1 (c_X4_textOf_in l D cA n ad en (by omega) hC t2 (by omega)) k_X4_textOf u_ml_RX4_97 hK hN hP (by omega) hC.1 rfl rfl rfl rfl (Nat.le_of_ble_eq_true rfl) ⟨Nat.le_of_ble_eq_true rfl, Nat.le_of_ble_eq_true rfl⟩ ⟨Nat.le_of_ble_eq_true rfl, Nat.le_of_ble_eq_true rfl⟩ dX4_first_9 ?_
        refine lv_astore (lv' := [(5, .ref (ad (21 + 3 * t2))), (4, .null), (0, .ref (ad 0)), (1, .int (xI z1)), (2, .int (xI (t2 : Int))), (3, .int (xI z3))]) hx hb dX4_first_12 hl (by decide) rfl (fun ls hl => ?_)
        refine lv_aloadN hx hb dX4_first_14 (lv_at hl 1 rfl) ?_
        refine lv_ifnullN (tgt := 24) hx hb dX4_first_16 (by decide) ?_
        refine x_sipush hx hb dX4_first_24 (by decide +kernel) ?_
        exact xr_i hx hb hrt hlocks ((by unfold am_first; simp only [Int.toNat_natCast]; simp only [sp_get_s hS_t2]; rw [sp_if_t (by omega)])) dX4_first_27
    · refine lv_aload_n hx hb dX4_first_0 rfl (lv_at hl 0 rfl) ?_
      refine lv_iload_n hx hb dX4_first_1 rfl (lv_at hl 1 rfl) ?_
      refine xv_q (i := 0) (As := [.int (xI z1)]) (rest := []) ⟨hx, hb, hml, hown, hts⟩ hl.1 (c_X4_builderOf_out l D cA n ad en (by omega) hC z1 (by omega) (by omega)) k_X4_builderOf u_ml_RX4_52 hK hN hP (by omega) hC.1 rfl rfl rfl rfl (Nat.le_of_ble_eq_true rfl) ⟨Nat.le_of_ble_eq_true rfl, Nat.le_of_ble_eq_true rfl⟩ ⟨Nat.le_of_ble_eq_true rfl, Nat.le_of_ble_eq_true rfl⟩ dX4_first_2 ?_
      refine lv_astoreN (lv' := [(4, .null), (0, .ref (ad 0)), (1, .int (xI z1)), (2, .int (xI z2)), (3, .int (xI z3))]) hx hb dX4_first_5 hl (by decide) rfl (fun ls hl => ?_)
      refine lv_aload_n hx hb dX4_first_7 rfl (lv_at hl 1 rfl) ?_
      refine lv_iload_n hx hb dX4_first_8 rfl (lv_at hl 3 rfl) ?_
      refine xv_q (i := 0) (As := [.int (xI z2)]) (rest := []) ⟨hx, hb, hml, hown, hts⟩ hl.1 (c_X4_textOf_out l D cA n ad en (by omega) hC z2 (by omega) (by omega)) k_X4_textOf u_ml_RX4_97 hK hN hP (by omega) hC.1 rfl rfl rfl rfl (Nat.le_of_ble_eq_true rfl) ⟨Nat.le_of_ble_eq_true rfl, Nat.le_of_ble_eq_true rfl⟩ ⟨Nat.le_of_ble_eq_true rfl, Nat.le_of_ble_eq_true rfl⟩ dX4_first_9 ?_
      refine lv_astoreN (lv' := [(5, .null), (4, .null), (0, .ref (ad 0)), (1, .int (xI z1)), (2, .int (xI z2)), (3, .int (xI z3))]) hx hb dX4_first_12 hl (by decide) rfl (fun ls hl => ?_)
      refine lv_aloadN hx hb dX4_first_14 (lv_at hl 1 rfl) ?_
      refine lv_ifnullN (tgt := 24) hx hb dX4_first_16 (by decide) ?_
      refine x_sipush hx hb dX4_first_24 (by decide +kernel) ?_
      exact xr_i hx hb hrt hlocks ((by unfold am_first; rw [sp_if_t (by omega)])) dX4_first_27

set_option maxRecDepth 20000 in
theorem c_X4_last (l : Launch) (D : va_G) (cA : Nat → ClassId) (n : Nat) (ad : Nat → Nat) (en : Nat → va_E) (hn : 53 ≤ n) {S : xSt} (hC : CW cA ad en S) (z1 : Int) (hz1 : -2147483648 ≤ z1 ∧ z1 ≤ 2147483647) (z2 : Int) (hz2 : -2147483648 ≤ z2 ∧ z2 ≤ 2147483647) (z3 : Int) (hz3 : -2147483648 ≤ z3 ∧ z3 ≤ 2147483647) : Met l yX4_last (Cond.code yX4_last cX4_last 6 (some .int) :: xU) (xrm 5 112) (va_Pc [.ref (ad 0), .int (xI z1), .int (xI z2), .int (xI z3)] (xB D cA n ad en)) (vp_Si (fun z => z = xI (am_last S z1 z2 z3))) 0 0 (fun _ => False) := by
  refine xmet (by decide) (Nat.le_of_ble_eq_true rfl) (fun p e s mm args below meth c ls hx hb hrt hml hown hts hlocks hname hB hl => ?_)
  obtain ⟨hP, hK, hN⟩ := hB
  have hl : lv_has ls 6 [(0, .ref (ad 0)), (1, .int (xI z1)), (2, .int (xI z2)), (3, .int (xI z3))] := hl
  rcases Classical.em (0 ≤ z1 ∧ z1 < 4) with hx_z1 | hx_z1
  · obtain ⟨b1, rfl⟩ : ∃ q : Nat, z1 = (q : Int) := ⟨z1.toNat, by omega⟩
    have h_b1 : b1 < 4 := by omega
    rcases Classical.em (0 ≤ z2 ∧ z2 < 8) with hx_z2 | hx_z2
    · obtain ⟨t2, rfl⟩ : ∃ q : Nat, z2 = (q : Int) := ⟨z2.toNat, by omega⟩
      have h_t2 : t2 < 8 := by omega
      rcases hS_t2 : S.2.1 t2 with _ | r_t2
      · have hr_b1 : XR cA ad en (13 + 2 * b1) (S.1 b1).1 (S.1 b1).2 := hC.rb h_b1
        have hm_b1 := hr_b1.2.2.1
        have hT_t2 : XT cA ad en (21 + 3 * t2) none := by have q : XT cA ad en (21 + 3 * t2) (S.2.1 t2) := hC.rt h_t2; rw [hS_t2] at q; exact q
        refine lv_aload_n hx hb dX4_last_0 rfl (lv_at hl 0 rfl) ?_
        refine lv_iload_n hx hb dX4_last_1 rfl (lv_at hl 1 rfl) ?_
        refine xv_q (i := 0) (As := [.int (xI (b1 : Int))]) (rest := []) ⟨hx, hb, hml, hown, hts⟩ hl.1 (c_X4_builderOf_in l D cA n ad en (by omega) hC b1 (by omega)) k_X4_builderOf u_ml_RX4_52 hK hN hP (by omega) hC.1 rfl rfl rfl rfl (Nat.le_of_ble_eq_true rfl) ⟨Nat.le_of_ble_eq_true rfl, Nat.le_of_ble_eq_true rfl⟩ ⟨Nat.le_of_ble_eq_true rfl, Nat.le_of_ble_eq_true rfl⟩ dX4_last_2 ?_
        refine lv_astore (lv' := [(4, .ref (ad (13 + 2 * b1))), (0, .ref (ad 0)), (1, .int (xI (b1 : Int))), (2, .int (xI (t2 : Int))), (3, .int (xI z3))]) hx hb dX4_last_5 hl (by decide) rfl (fun ls hl => ?_)
        refine lv_aload_n hx hb dX4_last_7 rfl (lv_at hl 1 rfl) ?_
        refine lv_iload_n hx hb dX4_last_8 rfl (lv_at hl 3 rfl) ?_
        refine xv_q (i := 0) (As := [.int (xI (t2 : Int))]) (rest := []) ⟨hx, hb, hml, hown, hts⟩ hl.1 (c_X4_textOf_in l D cA n ad en (by omega) hC t2 (by omega)) k_X4_textOf u_ml_RX4_97 hK hN hP (by omega) hC.1 rfl rfl rfl rfl (Nat.le_of_ble_eq_true rfl) ⟨Nat.le_of_ble_eq_true rfl, Nat.le_of_ble_eq_true rfl⟩ ⟨Nat.le_of_ble_eq_true rfl, Nat.le_of_ble_eq_true rfl⟩ dX4_last_9 ?_
        refine lv_astore (lv' := [(5, .ref (ad (21 + 3 * t2))), (4, .ref (ad (13 + 2 * b1))), (0, .ref (ad 0)), (1, .int (xI (b1 : Int))), (2, .int (xI (t2 : Int))), (3, .int (xI z3))]) hx hb dX4_last_12 hl (by decide) rfl (fun ls hl => ?_)
        refine lv_aload hx hb dX4_last_14 (lv_at hl 1 rfl) ?_
        refine lv_ifnull hx hb dX4_last_16 ?_
        refine lv_aload hx hb dX4_last_19 (lv_at hl 0 rfl) ?_
        refine lv_ifnonnull (tgt := 28) hx hb dX4_last_21 (by decide) ?_
        refine lv_aload hx hb dX4_last_28 (lv_at hl 0 rfl) ?_
        refine x_getn (T := TX3) (N := 2) hx hb hts uX3 hown hN hK hP (i := 21 + 3 * t2) (by omega) hT_t2.1 rfl 1 (by decide) (by simp only [xNest, List.mem_cons]; exact Or.inr (Or.inr (Or.inr (Or.inr (Or.inr (Or.inr (Or.inl rfl))))))) rfl dX4_last_30 ?_
        refine x_if_eq (tgt := 42) hx hb dX4_last_33 (by decide) (by omega) (fun c_33 => absurd c_33 (by omega)) (fun c_33 => ?_)
        refine x_sipush hx hb dX4_last_36 (by decide +kernel) ?_
        refine lv_goto (tgt := 53) hx hb dX4_last_39 (by decide) ?_
        exact xr_i hx hb hrt hlocks ((by unfold am_last; simp only [Int.toNat_natCast]; rw [sp_if_f (by omega), sp_if_t (by simp [hS_t2])])) dX4_last_53
      · have hr_b1 : XR cA ad en (13 + 2 * b1) (S.1 b1).1 (S.1 b1).2 := hC.rb h_b1
        have hm_b1 := hr_b1.2.2.1
        have hT_t2 : XT cA ad en (21 + 3 * t2) (some r_t2) := by have q : XT cA ad en (21 + 3 * t2) (S.2.1 t2) := hC.rt h_t2; rw [hS_t2] at q; exact q
        have hr_t2 := hT_t2.2
        have hm_t2 := hr_t2.2.2.1
        refine lv_aload_n hx hb dX4_last_0 rfl (lv_at hl 0 rfl) ?_
        refine lv_iload_n hx hb dX4_last_1 rfl (lv_at hl 1 rfl) ?_
        refine xv_q (i := 0) (As := [.int (xI (b1 : Int))]) (rest := []) ⟨hx, hb, hml, hown, hts⟩ hl.1 (c_X4_builderOf_in l D cA n ad en (by omega) hC b1 (by omega)) k_X4_builderOf u_ml_RX4_52 hK hN hP (by omega) hC.1 rfl rfl rfl rfl (Nat.le_of_ble_eq_true rfl) ⟨Nat.le_of_ble_eq_true rfl, Nat.le_of_ble_eq_true rfl⟩ ⟨Nat.le_of_ble_eq_true rfl, Nat.le_of_ble_eq_true rfl⟩ dX4_last_2 ?_
        refine lv_astore (lv' := [(4, .ref (ad (13 + 2 * b1))), (0, .ref (ad 0)), (1, .int (xI (b1 : Int))), (2, .int (xI (t2 : Int))), (3, .int (xI z3))]) hx hb dX4_last_5 hl (by decide) rfl (fun ls hl => ?_)
        refine lv_aload_n hx hb dX4_last_7 rfl (lv_at hl 1 rfl) ?_
        refine lv_iload_n hx hb dX4_last_8 rfl (lv_at hl 3 rfl) ?_
        refine xv_q (i := 0) (As := [.int (xI (t2 : Int))]) (rest := []) ⟨hx, hb, hml, hown, hts⟩ hl.1 (c_X4_textOf_in l D cA n ad en (by omega) hC t2 (by omega)) k_X4_textOf u_ml_RX4_97 hK hN hP (by omega) hC.1 rfl rfl rfl rfl (Nat.le_of_ble_eq_true rfl) ⟨Nat.le_of_ble_eq_true rfl, Nat.le_of_ble_eq_true rfl⟩ ⟨Nat.le_of_ble_eq_true rfl, Nat.le_of_ble_eq_true rfl⟩ dX4_last_9 ?_
        refine lv_astore (lv' := [(5, .ref (ad (21 + 3 * t2))), (4, .ref (ad (13 + 2 * b1))), (0, .ref (ad 0)), (1, .int (xI (b1 : Int))), (2, .int (xI (t2 : Int))), (3, .int (xI z3))]) hx hb dX4_last_12 hl (by decide) rfl (fun ls hl => ?_)
        refine lv_aload hx hb dX4_last_14 (lv_at hl 1 rfl) ?_
        refine lv_ifnull hx hb dX4_last_16 ?_
        refine lv_aload hx hb dX4_last_19 (lv_at hl 0 rfl) ?_
        refine lv_ifnonnull (tgt := 28) hx hb dX4_last_21 (by decide) ?_
        refine lv_aload hx hb dX4_last_28 (lv_at hl 0 rfl) ?_
        refine x_getn (T := TX3) (N := 2) hx hb hts uX3 hown hN hK hP (i := 21 + 3 * t2) (by omega) hT_t2.1 rfl 1 (by decide) (by simp only [xNest, List.mem_cons]; exact Or.inr (Or.inr (Or.inr (Or.inr (Or.inr (Or.inr (Or.inl rfl))))))) rfl dX4_last_30 ?_
        refine x_if_eq (tgt := 42) hx hb dX4_last_33 (by decide) (by omega) (fun c_33 => ?_) (fun c_33 => absurd c_33 (by omega))
        refine lv_aload hx hb dX4_last_42 (lv_at hl 1 rfl) ?_
        refine lv_aload hx hb dX4_last_44 (lv_at hl 0 rfl) ?_
        refine x_getn (T := TX3) (N := 2) hx hb hts uX3 hown hN hK hP (i := 21 + 3 * t2) (by omega) hT_t2.1 rfl 0 (by decide) (by simp only [xNest, List.mem_cons]; exact Or.inr (Or.inr (Or.inr (Or.inr (Or.inr (Or.inl rfl)))))) rfl dX4_last_46 ?_
        refine lv_iload_n hx hb dX4_last_49 rfl (lv_at hl 5 rfl) ?_
        refine xv_i (i := 13 + 2 * b1) (As := [.ref (ad (21 + 3 * t2 + 1)), .int (xI z3)]) (rest := []) ⟨hx, hb, hml, hown, hts⟩ hl.1 (c_X2_findBackward l D cA n ad en (by omega) hr_b1 (by omega) hr_t2 z3 (by omega)) k_X2_findBackward u_ml_RX4_126 hK hN hP (by omega) hr_b1.1 rfl rfl rfl rfl (Nat.le_of_ble_eq_true rfl) ⟨Nat.le_of_ble_eq_true rfl, Nat.le_of_ble_eq_true rfl⟩ ⟨Nat.le_of_ble_eq_true rfl, Nat.le_of_ble_eq_true rfl⟩ dX4_last_50 ?_
        exact xr_i hx hb hrt hlocks ((by unfold am_last; simp only [Int.toNat_natCast]; simp only [sp_get_s hS_t2]; rw [sp_if_f (by omega), sp_if_f (by simp [hS_t2])])) dX4_last_53
    · have hr_b1 : XR cA ad en (13 + 2 * b1) (S.1 b1).1 (S.1 b1).2 := hC.rb h_b1
      have hm_b1 := hr_b1.2.2.1
      refine lv_aload_n hx hb dX4_last_0 rfl (lv_at hl 0 rfl) ?_
      refine lv_iload_n hx hb dX4_last_1 rfl (lv_at hl 1 rfl) ?_
      refine xv_q (i := 0) (As := [.int (xI (b1 : Int))]) (rest := []) ⟨hx, hb, hml, hown, hts⟩ hl.1 (c_X4_builderOf_in l D cA n ad en (by omega) hC b1 (by omega)) k_X4_builderOf u_ml_RX4_52 hK hN hP (by omega) hC.1 rfl rfl rfl rfl (Nat.le_of_ble_eq_true rfl) ⟨Nat.le_of_ble_eq_true rfl, Nat.le_of_ble_eq_true rfl⟩ ⟨Nat.le_of_ble_eq_true rfl, Nat.le_of_ble_eq_true rfl⟩ dX4_last_2 ?_
      refine lv_astore (lv' := [(4, .ref (ad (13 + 2 * b1))), (0, .ref (ad 0)), (1, .int (xI (b1 : Int))), (2, .int (xI z2)), (3, .int (xI z3))]) hx hb dX4_last_5 hl (by decide) rfl (fun ls hl => ?_)
      refine lv_aload_n hx hb dX4_last_7 rfl (lv_at hl 1 rfl) ?_
      refine lv_iload_n hx hb dX4_last_8 rfl (lv_at hl 3 rfl) ?_
      refine xv_q (i := 0) (As := [.int (xI z2)]) (rest := []) ⟨hx, hb, hml, hown, hts⟩ hl.1 (c_X4_textOf_out l D cA n ad en (by omega) hC z2 (by omega) (by omega)) k_X4_textOf u_ml_RX4_97 hK hN hP (by omega) hC.1 rfl rfl rfl rfl (Nat.le_of_ble_eq_true rfl) ⟨Nat.le_of_ble_eq_true rfl, Nat.le_of_ble_eq_true rfl⟩ ⟨Nat.le_of_ble_eq_true rfl, Nat.le_of_ble_eq_true rfl⟩ dX4_last_9 ?_
      refine lv_astoreN (lv' := [(5, .null), (4, .ref (ad (13 + 2 * b1))), (0, .ref (ad 0)), (1, .int (xI (b1 : Int))), (2, .int (xI z2)), (3, .int (xI z3))]) hx hb dX4_last_12 hl (by decide) rfl (fun ls hl => ?_)
      refine lv_aload hx hb dX4_last_14 (lv_at hl 1 rfl) ?_
      refine lv_ifnull hx hb dX4_last_16 ?_
      refine lv_aloadN hx hb dX4_last_19 (lv_at hl 0 rfl) ?_
      refine lv_ifnonnullN hx hb dX4_last_21 ?_
      refine x_sipush hx hb dX4_last_24 (by decide +kernel) ?_
      exact xr_i hx hb hrt hlocks ((by unfold am_last; simp only [Int.toNat_natCast]; rw [sp_if_t (by omega)])) dX4_last_27
  · rcases Classical.em (0 ≤ z2 ∧ z2 < 8) with hx_z2 | hx_z2
    · obtain ⟨t2, rfl⟩ : ∃ q : Nat, z2 = (q : Int) := ⟨z2.toNat, by omega⟩
      have h_t2 : t2 < 8 := by omega
      rcases hS_t2 : S.2.1 t2 with _ | r_t2
      · have hT_t2 : XT cA ad en (21 + 3 * t2) none := by have q : XT cA ad en (21 + 3 * t2) (S.2.1 t2) := hC.rt h_t2; rw [hS_t2] at q; exact q
        refine lv_aload_n hx hb dX4_last_0 rfl (lv_at hl 0 rfl) ?_
        refine lv_iload_n hx hb dX4_last_1 rfl (lv_at hl 1 rfl) ?_
        refine xv_q (i := 0) (As := [.int (xI z1)]) (rest := []) ⟨hx, hb, hml, hown, hts⟩ hl.1 (c_X4_builderOf_out l D cA n ad en (by omega) hC z1 (by omega) (by omega)) k_X4_builderOf u_ml_RX4_52 hK hN hP (by omega) hC.1 rfl rfl rfl rfl (Nat.le_of_ble_eq_true rfl) ⟨Nat.le_of_ble_eq_true rfl, Nat.le_of_ble_eq_true rfl⟩ ⟨Nat.le_of_ble_eq_true rfl, Nat.le_of_ble_eq_true rfl⟩ dX4_last_2 ?_
        refine lv_astoreN (lv' := [(4, .null), (0, .ref (ad 0)), (1, .int (xI z1)), (2, .int (xI (t2 : Int))), (3, .int (xI z3))]) hx hb dX4_last_5 hl (by decide) rfl (fun ls hl => ?_)
        refine lv_aload_n hx hb dX4_last_7 rfl (lv_at hl 1 rfl) ?_
        refine lv_iload_n hx hb dX4_last_8 rfl (lv_at hl 3 rfl) ?_
        refine xv_q (i := 0) (As := [.int (xI (t2 : Int))]) (rest := []) ⟨hx, hb, hml, hown, hts⟩ hl.1 (c_X4_textOf_in l D cA n ad en (by omega) hC t2 (by omega)) k_X4_textOf u_ml_RX4_97 hK hN hP (by omega) hC.1 rfl rfl rfl rfl (Nat.le_of_ble_eq_true rfl) ⟨Nat.le_of_ble_eq_true rfl, Nat.le_of_ble_eq_true rfl⟩ ⟨Nat.le_of_ble_eq_true rfl, Nat.le_of_ble_eq_true rfl⟩ dX4_last_9 ?_
        refine lv_astore (lv' := [(5, .ref (ad (21 + 3 * t2))), (4, .null), (0, .ref (ad 0)), (1, .int (xI z1)), (2, .int (xI (t2 : Int))), (3, .int (xI z3))]) hx hb dX4_last_12 hl (by decide) rfl (fun ls hl => ?_)
        refine lv_aloadN hx hb dX4_last_14 (lv_at hl 1 rfl) ?_
        refine lv_ifnullN (tgt := 24) hx hb dX4_last_16 (by decide) ?_
        refine x_sipush hx hb dX4_last_24 (by decide +kernel) ?_
        exact xr_i hx hb hrt hlocks ((by unfold am_last; simp only [Int.toNat_natCast]; rw [sp_if_t (by omega)])) dX4_last_27
      · have hT_t2 : XT cA ad en (21 + 3 * t2) (some r_t2) := by have q : XT cA ad en (21 + 3 * t2) (S.2.1 t2) := hC.rt h_t2; rw [hS_t2] at q; exact q
        have hr_t2 := hT_t2.2
        have hm_t2 := hr_t2.2.2.1
        refine lv_aload_n hx hb dX4_last_0 rfl (lv_at hl 0 rfl) ?_
        refine lv_iload_n hx hb dX4_last_1 rfl (lv_at hl 1 rfl) ?_
        refine xv_q (i := 0) (As := [.int (xI z1)]) (rest := []) ⟨hx, hb, hml, hown, hts⟩ hl.1 (c_X4_builderOf_out l D cA n ad en (by omega) hC z1 (by omega) (by omega)) k_X4_builderOf u_ml_RX4_52 hK hN hP (by omega) hC.1 rfl rfl rfl rfl (Nat.le_of_ble_eq_true rfl) ⟨Nat.le_of_ble_eq_true rfl, Nat.le_of_ble_eq_true rfl⟩ ⟨Nat.le_of_ble_eq_true rfl, Nat.le_of_ble_eq_true rfl⟩ dX4_last_2 ?_
        refine lv_astoreN (lv' := [(4, .null), (0, .ref (ad 0)), (1, .int (xI z1)), (2, .int (xI (t2 : Int))), (3, .int (xI z3))]) hx hb dX4_last_5 hl (by decide) rfl (fun ls hl => ?_)
        refine lv_aload_n hx hb dX4_last_7 rfl (lv_at hl 1 rfl) ?_
        refine lv_iload_n hx hb dX4_last_8 rfl (lv_at hl 3 rfl) ?_
        refine xv_q (i := 0) (As := [.int (xI (t2 : Int))]) (rest := []) ⟨hx, hb, hml, hown, hts⟩ hl.1 (c_X4_textOf_in l D cA n ad en (by omega) hC t2 (by omega)) k_X4_textOf u_ml_RX4_97 hK hN hP (by omega) hC.1 rfl rfl rfl rfl (Nat.le_of_ble_eq_true rfl) ⟨Nat.le_of_ble_eq_true rfl, Nat.le_of_ble_eq_true rfl⟩ ⟨Nat.le_of_ble_eq_true rfl, Nat.le_of_ble_eq_true rfl⟩ dX4_last_9 ?_
        refine lv_astore (lv' := [(5, .ref (ad (21 + 3 * t2))), (4, .null), (0, .ref (ad 0)), (1, .int (xI z1)), (2, .int (xI (t2 : Int))), (3, .int (xI z3))]) hx hb dX4_last_12 hl (by decide) rfl (fun ls hl => ?_)
        refine lv_aloadN hx hb dX4_last_14 (lv_at hl 1 rfl) ?_
        refine lv_ifnullN (tgt := 24) hx hb dX4_last_16 (by decide) ?_
        refine x_sipush hx hb dX4_last_24 (by decide +kernel) ?_
        exact xr_i hx hb hrt hlocks ((by unfold am_last; simp only [Int.toNat_natCast]; simp only [sp_get_s hS_t2]; rw [sp_if_t (by omega)])) dX4_last_27
    · refine lv_aload_n hx hb dX4_last_0 rfl (lv_at hl 0 rfl) ?_
      refine lv_iload_n hx hb dX4_last_1 rfl (lv_at hl 1 rfl) ?_
      refine xv_q (i := 0) (As := [.int (xI z1)]) (rest := []) ⟨hx, hb, hml, hown, hts⟩ hl.1 (c_X4_builderOf_out l D cA n ad en (by omega) hC z1 (by omega) (by omega)) k_X4_builderOf u_ml_RX4_52 hK hN hP (by omega) hC.1 rfl rfl rfl rfl (Nat.le_of_ble_eq_true rfl) ⟨Nat.le_of_ble_eq_true rfl, Nat.le_of_ble_eq_true rfl⟩ ⟨Nat.le_of_ble_eq_true rfl, Nat.le_of_ble_eq_true rfl⟩ dX4_last_2 ?_
      refine lv_astoreN (lv' := [(4, .null), (0, .ref (ad 0)), (1, .int (xI z1)), (2, .int (xI z2)), (3, .int (xI z3))]) hx hb dX4_last_5 hl (by decide) rfl (fun ls hl => ?_)
      refine lv_aload_n hx hb dX4_last_7 rfl (lv_at hl 1 rfl) ?_
      refine lv_iload_n hx hb dX4_last_8 rfl (lv_at hl 3 rfl) ?_
      refine xv_q (i := 0) (As := [.int (xI z2)]) (rest := []) ⟨hx, hb, hml, hown, hts⟩ hl.1 (c_X4_textOf_out l D cA n ad en (by omega) hC z2 (by omega) (by omega)) k_X4_textOf u_ml_RX4_97 hK hN hP (by omega) hC.1 rfl rfl rfl rfl (Nat.le_of_ble_eq_true rfl) ⟨Nat.le_of_ble_eq_true rfl, Nat.le_of_ble_eq_true rfl⟩ ⟨Nat.le_of_ble_eq_true rfl, Nat.le_of_ble_eq_true rfl⟩ dX4_last_9 ?_
      refine lv_astoreN (lv' := [(5, .null), (4, .null), (0, .ref (ad 0)), (1, .int (xI z1)), (2, .int (xI z2)), (3, .int (xI z3))]) hx hb dX4_last_12 hl (by decide) rfl (fun ls hl => ?_)
      refine lv_aloadN hx hb dX4_last_14 (lv_at hl 1 rfl) ?_
      refine lv_ifnullN (tgt := 24) hx hb dX4_last_16 (by decide) ?_
      refine x_sipush hx hb dX4_last_24 (by decide +kernel) ?_
      exact xr_i hx hb hrt hlocks ((by unfold am_last; rw [sp_if_t (by omega)])) dX4_last_27

set_option maxRecDepth 20000 in
theorem c_X4_take (l : Launch) (D : va_G) (cA : Nat → ClassId) (n : Nat) (ad : Nat → Nat) (en : Nat → va_E) (sz : Nat) (hn : 53 ≤ n) {S : xSt} (hC : CW cA ad en S) (z1 : Int) (hz1 : -2147483648 ≤ z1 ∧ z1 ≤ 2147483647) (z2 : Int) (hz2 : -2147483648 ≤ z2 ∧ z2 ≤ 2147483647) (z3 : Int) (hz3 : -2147483648 ≤ z3 ∧ z3 ≤ 2147483647) (z4 : Int) (hz4 : -2147483648 ≤ z4 ∧ z4 ≤ 2147483647) : Met l yX4_take (Cond.code yX4_take cX4_take 7 (some .int) :: xU) (xrm 3 73) (va_Pc [.ref (ad 0), .int (xI z1), .int (xI z2), .int (xI z3), .int (xI z4)] (xM D cA n ad en sz)) (va_Qi (fun r u => r = xI (am_take S z1 z2 z3 z4).1 ∧ CW cA ad u (am_take S z1 z2 z3 z4).2 ∧ xO 0 53 en u) (xE D n ad) (xA n ad sz)) 0 0 (xA n ad sz) := by
  refine xmet (by decide) (Nat.le_of_ble_eq_true rfl) (fun p e s mm args below meth c ls hx hb hrt hml hown hts hlocks hname hB hl => ?_)
  obtain ⟨⟨hP, hK, hN⟩, hsz, hDt⟩ := hB
  have hD : xD (xA n ad sz) n ad := xD_self hDt sz
  have hA : ∀ q : Nat, s.heap.size ≤ q → xA n ad sz q := fun q h => Or.inr (by rw [← hsz]; exact h)
  have hS : va_S (xA n ad sz) s.heap s.heap [] := va_S.rf
  have hown : s.vm.findClass RX4 = some mm.cls := hown
  have hl : lv_has ls 7 [(0, .ref (ad 0)), (1, .int (xI z1)), (2, .int (xI z2)), (3, .int (xI z3)), (4, .int (xI z4))] := hl
  rcases Classical.em (0 ≤ z1 ∧ z1 < 4) with hx_z1 | hx_z1
  · obtain ⟨b1, rfl⟩ : ∃ q : Nat, z1 = (q : Int) := ⟨z1.toNat, by omega⟩
    have h_b1 : b1 < 4 := by omega
    rcases Classical.em (0 ≤ z4 ∧ z4 < 8) with hx_z4 | hx_z4
    · obtain ⟨t4, rfl⟩ : ∃ q : Nat, z4 = (q : Int) := ⟨z4.toNat, by omega⟩
      have h_t4 : t4 < 8 := by omega
      have hr_b1 : XR cA ad en (13 + 2 * b1) (S.1 b1).1 (S.1 b1).2 := hC.rb h_b1
      have hm_b1 := hr_b1.2.2.1
      have hT_t4 : XT cA ad en (21 + 3 * t4) (S.2.1 t4) := hC.rt h_t4
      obtain ⟨zm_t4, tm_t4, tf_t4, hO_t4, hr_t4⟩ := hT_t4.any
      refine lv_aload_n hx hb dX4_take_0 rfl (lv_at hl 0 rfl) ?_
      refine lv_iload_n hx hb dX4_take_1 rfl (lv_at hl 1 rfl) ?_
      refine xv_q (i := 0) (As := [.int (xI (b1 : Int))]) (rest := []) ⟨hx, hb, hml, hown, hts⟩ hl.1 (c_X4_builderOf_in l D cA n ad en (by omega) hC b1 (by omega)) k_X4_builderOf u_ml_RX4_52 hK hN hP (by omega) hC.1 rfl rfl rfl rfl (Nat.le_of_ble_eq_true rfl) ⟨Nat.le_of_ble_eq_true rfl, Nat.le_of_ble_eq_true rfl⟩ ⟨Nat.le_of_ble_eq_true rfl, Nat.le_of_ble_eq_true rfl⟩ dX4_take_2 ?_
      refine lv_astore (lv' := [(5, .ref (ad (13 + 2 * b1))), (0, .ref (ad 0)), (1, .int (xI (b1 : Int))), (2, .int (xI z2)), (3, .int (xI z3)), (4, .int (xI (t4 : Int)))]) hx hb dX4_take_5 hl (by decide) rfl (fun ls hl => ?_)
      refine lv_aload_n hx hb dX4_take_7 rfl (lv_at hl 1 rfl) ?_
      refine lv_iload hx hb dX4_take_8 (lv_at hl 5 rfl) ?_
      refine xv_q (i := 0) (As := [.int (xI (t4 : Int))]) (rest := []) ⟨hx, hb, hml, hown, hts⟩ hl.1 (c_X4_textOf_in l D cA n ad en (by omega) hC t4 (by omega)) k_X4_textOf u_ml_RX4_97 hK hN hP (by omega) hC.1 rfl rfl rfl rfl (Nat.le_of_ble_eq_true rfl) ⟨Nat.le_of_ble_eq_true rfl, Nat.le_of_ble_eq_true rfl⟩ ⟨Nat.le_of_ble_eq_true rfl, Nat.le_of_ble_eq_true rfl⟩ dX4_take_10 ?_
      refine lv_astore (lv' := [(6, .ref (ad (21 + 3 * t4))), (5, .ref (ad (13 + 2 * b1))), (0, .ref (ad 0)), (1, .int (xI (b1 : Int))), (2, .int (xI z2)), (3, .int (xI z3)), (4, .int (xI (t4 : Int)))]) hx hb dX4_take_13 hl (by decide) rfl (fun ls hl => ?_)
      refine lv_aload hx hb dX4_take_15 (lv_at hl 1 rfl) ?_
      refine lv_ifnull hx hb dX4_take_17 ?_
      refine lv_aload hx hb dX4_take_20 (lv_at hl 0 rfl) ?_
      refine lv_ifnonnull (tgt := 29) hx hb dX4_take_22 (by decide) ?_
      refine lv_aload hx hb dX4_take_29 (lv_at hl 0 rfl) ?_
      refine lv_aload hx hb dX4_take_31 (lv_at hl 1 rfl) ?_
      refine lv_iload_n hx hb dX4_take_33 rfl (lv_at hl 4 rfl) ?_
      refine lv_iload_n hx hb dX4_take_34 rfl (lv_at hl 5 rfl) ?_
      refine xm_i (i := 21 + 3 * t4) (As := [.ref (ad (13 + 2 * b1)), .int (xI z2), .int (xI z3)]) (rest := []) ⟨hx, hb, hml, hown, hts⟩ hl.1 (c_X3_become l D cA n ad en _ (by omega) hT_t4 (by omega) hr_b1 (by omega) z2 z3 (by omega) (by omega)) k_X3_become u_ml_RX4_129 hK hN hP (by omega) hO_t4 rfl rfl rfl rfl (Nat.le_of_ble_eq_true rfl) ⟨Nat.le_of_ble_eq_true rfl, Nat.le_of_ble_eq_true rfl⟩ ⟨Nat.le_of_ble_eq_true rfl, Nat.le_of_ble_eq_true rfl⟩ dX4_take_35 hD hS hA (fun r1 en1 H locs hp1 hP hS => ?_)
      rcases hp1 with ⟨hsp, hrv, hx1, hoc⟩ | ⟨hsp, hrv, hu⟩
      · subst hrv
        have hC9 := hC.text h_t4 (hoc.mo (by omega) (by omega)) hx1
        have ho : xO 0 53 en en1 := hoc.mo (by omega) (by omega)
        exact xe_i hx hb hrt hlocks hP hS ((by unfold am_take; simp only [Int.toNat_natCast]; rw [sp_if_f (by omega), sp_if_f (by omega)]; exact ⟨rfl, hC9, ho⟩)) dX4_take_38
      · subst hrv
        rw [hu] at hP
        exact xe_i hx hb hrt hlocks hP hS ((by unfold am_take; simp only [Int.toNat_natCast]; rw [sp_if_f (by omega), sp_if_t (by omega)]; exact ⟨rfl, hC, xO.rf⟩)) dX4_take_38
    · have hr_b1 : XR cA ad en (13 + 2 * b1) (S.1 b1).1 (S.1 b1).2 := hC.rb h_b1
      have hm_b1 := hr_b1.2.2.1
      refine lv_aload_n hx hb dX4_take_0 rfl (lv_at hl 0 rfl) ?_
      refine lv_iload_n hx hb dX4_take_1 rfl (lv_at hl 1 rfl) ?_
      refine xv_q (i := 0) (As := [.int (xI (b1 : Int))]) (rest := []) ⟨hx, hb, hml, hown, hts⟩ hl.1 (c_X4_builderOf_in l D cA n ad en (by omega) hC b1 (by omega)) k_X4_builderOf u_ml_RX4_52 hK hN hP (by omega) hC.1 rfl rfl rfl rfl (Nat.le_of_ble_eq_true rfl) ⟨Nat.le_of_ble_eq_true rfl, Nat.le_of_ble_eq_true rfl⟩ ⟨Nat.le_of_ble_eq_true rfl, Nat.le_of_ble_eq_true rfl⟩ dX4_take_2 ?_
      refine lv_astore (lv' := [(5, .ref (ad (13 + 2 * b1))), (0, .ref (ad 0)), (1, .int (xI (b1 : Int))), (2, .int (xI z2)), (3, .int (xI z3)), (4, .int (xI z4))]) hx hb dX4_take_5 hl (by decide) rfl (fun ls hl => ?_)
      refine lv_aload_n hx hb dX4_take_7 rfl (lv_at hl 1 rfl) ?_
      refine lv_iload hx hb dX4_take_8 (lv_at hl 5 rfl) ?_
      refine xv_q (i := 0) (As := [.int (xI z4)]) (rest := []) ⟨hx, hb, hml, hown, hts⟩ hl.1 (c_X4_textOf_out l D cA n ad en (by omega) hC z4 (by omega) (by omega)) k_X4_textOf u_ml_RX4_97 hK hN hP (by omega) hC.1 rfl rfl rfl rfl (Nat.le_of_ble_eq_true rfl) ⟨Nat.le_of_ble_eq_true rfl, Nat.le_of_ble_eq_true rfl⟩ ⟨Nat.le_of_ble_eq_true rfl, Nat.le_of_ble_eq_true rfl⟩ dX4_take_10 ?_
      refine lv_astoreN (lv' := [(6, .null), (5, .ref (ad (13 + 2 * b1))), (0, .ref (ad 0)), (1, .int (xI (b1 : Int))), (2, .int (xI z2)), (3, .int (xI z3)), (4, .int (xI z4))]) hx hb dX4_take_13 hl (by decide) rfl (fun ls hl => ?_)
      refine lv_aload hx hb dX4_take_15 (lv_at hl 1 rfl) ?_
      refine lv_ifnull hx hb dX4_take_17 ?_
      refine lv_aloadN hx hb dX4_take_20 (lv_at hl 0 rfl) ?_
      refine lv_ifnonnullN hx hb dX4_take_22 ?_
      refine x_sipush hx hb dX4_take_25 (by decide +kernel) ?_
      exact xe_i hx hb hrt hlocks hP hS ((by unfold am_take; simp only [Int.toNat_natCast]; rw [sp_if_t (by omega)]; exact ⟨rfl, hC, xO.rf⟩)) dX4_take_28
  · rcases Classical.em (0 ≤ z4 ∧ z4 < 8) with hx_z4 | hx_z4
    · obtain ⟨t4, rfl⟩ : ∃ q : Nat, z4 = (q : Int) := ⟨z4.toNat, by omega⟩
      have h_t4 : t4 < 8 := by omega
      have hT_t4 : XT cA ad en (21 + 3 * t4) (S.2.1 t4) := hC.rt h_t4
      obtain ⟨zm_t4, tm_t4, tf_t4, hO_t4, hr_t4⟩ := hT_t4.any
      refine lv_aload_n hx hb dX4_take_0 rfl (lv_at hl 0 rfl) ?_
      refine lv_iload_n hx hb dX4_take_1 rfl (lv_at hl 1 rfl) ?_
      refine xv_q (i := 0) (As := [.int (xI z1)]) (rest := []) ⟨hx, hb, hml, hown, hts⟩ hl.1 (c_X4_builderOf_out l D cA n ad en (by omega) hC z1 (by omega) (by omega)) k_X4_builderOf u_ml_RX4_52 hK hN hP (by omega) hC.1 rfl rfl rfl rfl (Nat.le_of_ble_eq_true rfl) ⟨Nat.le_of_ble_eq_true rfl, Nat.le_of_ble_eq_true rfl⟩ ⟨Nat.le_of_ble_eq_true rfl, Nat.le_of_ble_eq_true rfl⟩ dX4_take_2 ?_
      refine lv_astoreN (lv' := [(5, .null), (0, .ref (ad 0)), (1, .int (xI z1)), (2, .int (xI z2)), (3, .int (xI z3)), (4, .int (xI (t4 : Int)))]) hx hb dX4_take_5 hl (by decide) rfl (fun ls hl => ?_)
      refine lv_aload_n hx hb dX4_take_7 rfl (lv_at hl 1 rfl) ?_
      refine lv_iload hx hb dX4_take_8 (lv_at hl 5 rfl) ?_
      refine xv_q (i := 0) (As := [.int (xI (t4 : Int))]) (rest := []) ⟨hx, hb, hml, hown, hts⟩ hl.1 (c_X4_textOf_in l D cA n ad en (by omega) hC t4 (by omega)) k_X4_textOf u_ml_RX4_97 hK hN hP (by omega) hC.1 rfl rfl rfl rfl (Nat.le_of_ble_eq_true rfl) ⟨Nat.le_of_ble_eq_true rfl, Nat.le_of_ble_eq_true rfl⟩ ⟨Nat.le_of_ble_eq_true rfl, Nat.le_of_ble_eq_true rfl⟩ dX4_take_10 ?_
      refine lv_astore (lv' := [(6, .ref (ad (21 + 3 * t4))), (5, .null), (0, .ref (ad 0)), (1, .int (xI z1)), (2, .int (xI z2)), (3, .int (xI z3)), (4, .int (xI (t4 : Int)))]) hx hb dX4_take_13 hl (by decide) rfl (fun ls hl => ?_)
      refine lv_aloadN hx hb dX4_take_15 (lv_at hl 1 rfl) ?_
      refine lv_ifnullN (tgt := 25) hx hb dX4_take_17 (by decide) ?_
      refine x_sipush hx hb dX4_take_25 (by decide +kernel) ?_
      exact xe_i hx hb hrt hlocks hP hS ((by unfold am_take; simp only [Int.toNat_natCast]; rw [sp_if_t (by omega)]; exact ⟨rfl, hC, xO.rf⟩)) dX4_take_28
    · refine lv_aload_n hx hb dX4_take_0 rfl (lv_at hl 0 rfl) ?_
      refine lv_iload_n hx hb dX4_take_1 rfl (lv_at hl 1 rfl) ?_
      refine xv_q (i := 0) (As := [.int (xI z1)]) (rest := []) ⟨hx, hb, hml, hown, hts⟩ hl.1 (c_X4_builderOf_out l D cA n ad en (by omega) hC z1 (by omega) (by omega)) k_X4_builderOf u_ml_RX4_52 hK hN hP (by omega) hC.1 rfl rfl rfl rfl (Nat.le_of_ble_eq_true rfl) ⟨Nat.le_of_ble_eq_true rfl, Nat.le_of_ble_eq_true rfl⟩ ⟨Nat.le_of_ble_eq_true rfl, Nat.le_of_ble_eq_true rfl⟩ dX4_take_2 ?_
      refine lv_astoreN (lv' := [(5, .null), (0, .ref (ad 0)), (1, .int (xI z1)), (2, .int (xI z2)), (3, .int (xI z3)), (4, .int (xI z4))]) hx hb dX4_take_5 hl (by decide) rfl (fun ls hl => ?_)
      refine lv_aload_n hx hb dX4_take_7 rfl (lv_at hl 1 rfl) ?_
      refine lv_iload hx hb dX4_take_8 (lv_at hl 5 rfl) ?_
      refine xv_q (i := 0) (As := [.int (xI z4)]) (rest := []) ⟨hx, hb, hml, hown, hts⟩ hl.1 (c_X4_textOf_out l D cA n ad en (by omega) hC z4 (by omega) (by omega)) k_X4_textOf u_ml_RX4_97 hK hN hP (by omega) hC.1 rfl rfl rfl rfl (Nat.le_of_ble_eq_true rfl) ⟨Nat.le_of_ble_eq_true rfl, Nat.le_of_ble_eq_true rfl⟩ ⟨Nat.le_of_ble_eq_true rfl, Nat.le_of_ble_eq_true rfl⟩ dX4_take_10 ?_
      refine lv_astoreN (lv' := [(6, .null), (5, .null), (0, .ref (ad 0)), (1, .int (xI z1)), (2, .int (xI z2)), (3, .int (xI z3)), (4, .int (xI z4))]) hx hb dX4_take_13 hl (by decide) rfl (fun ls hl => ?_)
      refine lv_aloadN hx hb dX4_take_15 (lv_at hl 1 rfl) ?_
      refine lv_ifnullN (tgt := 25) hx hb dX4_take_17 (by decide) ?_
      refine x_sipush hx hb dX4_take_25 (by decide +kernel) ?_
      exact xe_i hx hb hrt hlocks hP hS ((by unfold am_take; rw [sp_if_t (by omega)]; exact ⟨rfl, hC, xO.rf⟩)) dX4_take_28
