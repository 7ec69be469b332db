/-! behind a change of a builder's row -/
theorem x_fin {cA : Nat → ClassId} {ad : Nat → Nat} {en u : Nat → va_E} {S : xSt} {b : Nat} {h : Nat → Int} {k : Nat} {z1 z2 z3 z4 : Int} {r : Int32} (hC : CW cA ad en S) (hb : b < 4) (hp : (¬ ((0 ≤ z1 ∧ z1 ≤ z2 ∧ z2 ≤ ((S.1 b).1 : Int)) ∧ 0 ≤ z3 ∧ z3 ≤ z4 ∧ z4 ≤ (k : Int)) ∧ r = xI (-1005) ∧ u = en) ∨ (((0 ≤ z1 ∧ z1 ≤ z2 ∧ z2 ≤ ((S.1 b).1 : Int)) ∧ 0 ≤ z3 ∧ z3 ≤ z4 ∧ z4 ≤ (k : Int)) ∧ 200 < ((S.1 b).1 : Int) - (z2 - z1) + (z4 - z3) ∧ r = xI (-1007) ∧ u = en) ∨ (((0 ≤ z1 ∧ z1 ≤ z2 ∧ z2 ≤ ((S.1 b).1 : Int)) ∧ 0 ≤ z3 ∧ z3 ≤ z4 ∧ z4 ≤ (k : Int)) ∧ ((S.1 b).1 : Int) - (z2 - z1) + (z4 - z3) ≤ 200 ∧ r = xI (((S.1 b).1 : Int) - (z2 - z1) + (z4 - z3)) ∧ XR cA ad u (13 + 2 * b) (Int.toNat (((S.1 b).1 : Int) - (z2 - z1) + (z4 - z3))) (sp_ed (S.1 b).2 (Int.toNat z1) (Int.toNat z2) h (Int.toNat z3) (Int.toNat (z4 - z3))) ∧ xO (13 + 2 * b) (13 + 2 * b + 2) en u)) (hP : (0 ≤ z1 ∧ z1 ≤ z2 ∧ z2 ≤ ((S.1 b).1 : Int)) ∧ 0 ≤ z3 ∧ z3 ≤ z4 ∧ z4 ≤ (k : Int)) {r0 : xRow} {a e : Nat} (ha : z1 = (a : Int)) (he : z2 = (e : Int)) (hl : (r0.1 : Int) = z4 - z3) (hf : ∀ t : Nat, t < r0.1 → h (z3.toNat + t) = r0.2 t) :
    r = xI (sp_edt S b a e r0).1 ∧ CW cA ad u (sp_edt S b a e r0).2 ∧ xO (13 + 2 * b) (15 + 2 * b) en u := by
  subst ha
  subst he
  unfold sp_edt
  rcases hp with hp | ⟨-, h1, rfl, rfl⟩ | ⟨-, h1, rfl, hx, ho⟩
  · exact absurd hP hp.1
  · rw [if_pos (by omega)]
    exact ⟨rfl, hC, xO.rf⟩
  · rw [if_neg (by omega)]
    have e1 : (((S.1 b).1 : Int) - ((e : Int) - (a : Int)) + (z4 - z3)) = (((S.1 b).1 - (e - a) + r0.1 : Nat) : Int) := by omega
    refine ⟨by rw [e1], hC.builder hb (ho.mo (by omega) (by omega)) (hx.to (by omega) (fun t ht => ?_)), ho.mo (by omega) (by omega)⟩
    simp only [sp_ed, Int.toNat_natCast]
    by_cases q1 : t < a
    · rw [if_pos q1, if_pos q1]
    · rw [if_neg q1, if_neg q1]
      by_cases q2 : t < a + r0.1
      · rw [if_pos (by omega), if_pos q2, hf _ (by omega), Nat.zero_add]
      · rw [if_neg (by omega), if_neg q2, show (z4 - z3).toNat = r0.1 by omega]
theorem x_finP {cA : Nat → ClassId} {ad : Nat → Nat} {en u : Nat → va_E} {S : xSt} {b : Nat} {h : Nat → Int} {k : Nat} {z1 z2 z3 z4 : Int} {r : Int32} (hp : (¬ ((0 ≤ z1 ∧ z1 ≤ z2 ∧ z2 ≤ ((S.1 b).1 : Int)) ∧ 0 ≤ z3 ∧ z3 ≤ z4 ∧ z4 ≤ (k : Int)) ∧ r = xI (-1005) ∧ u = en) ∨ (((0 ≤ z1 ∧ z1 ≤ z2 ∧ z2 ≤ ((S.1 b).1 : Int)) ∧ 0 ≤ z3 ∧ z3 ≤ z4 ∧ z4 ≤ (k : Int)) ∧ 200 < ((S.1 b).1 : Int) - (z2 - z1) + (z4 - z3) ∧ r = xI (-1007) ∧ u = en) ∨ (((0 ≤ z1 ∧ z1 ≤ z2 ∧ z2 ≤ ((S.1 b).1 : Int)) ∧ 0 ≤ z3 ∧ z3 ≤ z4 ∧ z4 ≤ (k : Int)) ∧ ((S.1 b).1 : Int) - (z2 - z1) + (z4 - z3) ≤ 200 ∧ r = xI (((S.1 b).1 : Int) - (z2 - z1) + (z4 - z3)) ∧ XR cA ad u (13 + 2 * b) (Int.toNat (((S.1 b).1 : Int) - (z2 - z1) + (z4 - z3))) (sp_ed (S.1 b).2 (Int.toNat z1) (Int.toNat z2) h (Int.toNat z3) (Int.toNat (z4 - z3))) ∧ xO (13 + 2 * b) (13 + 2 * b + 2) en u)) (hP : ¬ ((0 ≤ z1 ∧ z1 ≤ z2 ∧ z2 ≤ ((S.1 b).1 : Int)) ∧ 0 ≤ z3 ∧ z3 ≤ z4 ∧ z4 ≤ (k : Int))) : r = xI (-1005) ∧ u = en := by
  rcases hp with hp | ⟨h1, -⟩ | ⟨h1, -⟩
  · exact hp.2
  · exact absurd h1 hP
  · exact absurd h1 hP

set_option maxRecDepth 20000 in
theorem c_X4_sign (l : Launch) (D : va_G) (cA : Nat → ClassId) (n : Nat) (ad : Nat → Nat) (en : Nat → va_E) (sz : Nat) (hn : 53 ≤ n) {S : xSt} (hC : CW cA ad en S) (z1 : Int) (hz1 : -2147483648 ≤ z1 ∧ z1 ≤ 2147483647) (z2 : Int) (hz2 : -2147483648 ≤ z2 ∧ z2 ≤ 2147483647) : Met l yX4_sign (Cond.code yX4_sign cX4_sign 4 (some .int) :: xU) (xrm 3 75) (va_Pc [.ref (ad 0), .int (xI z1), .int (xI z2)] (xM D cA n ad en sz)) (va_Qi (fun r u => r = xI (am_sign S z1 z2).1 ∧ CW cA ad u (am_sign S z1 z2).2 ∧ xO 0 53 en u) (xE D n ad) (xA n ad sz)) 0 0 (xA n ad sz) := by
  refine xmet (by decide) (Nat.le_of_ble_eq_true rfl) (fun p e s mm args below meth c ls hx hb hrt hml hown hts hlocks hname hB hl => ?_)
  obtain ⟨⟨hP, hK, hN⟩, hsz, hDt⟩ := hB
  have hD : xD (xA n ad sz) n ad := xD_self hDt sz
  have hA : ∀ q : Nat, s.heap.size ≤ q → xA n ad sz q := fun q h => Or.inr (by rw [← hsz]; exact h)
  have hS : va_S (xA n ad sz) s.heap s.heap [] := va_S.rf
  have hown : s.vm.findClass RX4 = some mm.cls := hown
  have hl : lv_has ls 4 [(0, .ref (ad 0)), (1, .int (xI z1)), (2, .int (xI z2))] := hl
  rcases Classical.em (0 ≤ z1 ∧ z1 < 4) with hx_z1 | hx_z1
  · obtain ⟨b1, rfl⟩ : ∃ q : Nat, z1 = (q : Int) := ⟨z1.toNat, by omega⟩
    have h_b1 : b1 < 4 := by omega
    have hr_b1 : XR cA ad en (13 + 2 * b1) (S.1 b1).1 (S.1 b1).2 := hC.rb h_b1
    have hm_b1 := hr_b1.2.2.1
    refine lv_aload_n hx hb dX4_sign_0 rfl (lv_at hl 0 rfl) ?_
    refine lv_iload_n hx hb dX4_sign_1 rfl (lv_at hl 1 rfl) ?_
    refine xv_q (i := 0) (As := [.int (xI (b1 : Int))]) (rest := []) ⟨hx, hb, hml, hown, hts⟩ hl.1 (c_X4_builderOf_in l D cA n ad en (by omega) hC b1 (by omega)) k_X4_builderOf u_ml_RX4_52 hK hN hP (by omega) hC.1 rfl rfl rfl rfl (Nat.le_of_ble_eq_true rfl) ⟨Nat.le_of_ble_eq_true rfl, Nat.le_of_ble_eq_true rfl⟩ ⟨Nat.le_of_ble_eq_true rfl, Nat.le_of_ble_eq_true rfl⟩ dX4_sign_2 ?_
    refine lv_astore_n (lv' := [(3, .ref (ad (13 + 2 * b1))), (0, .ref (ad 0)), (1, .int (xI (b1 : Int))), (2, .int (xI z2))]) hx hb dX4_sign_5 rfl hl (by decide) rfl (fun ls hl => ?_)
    refine lv_aload_n hx hb dX4_sign_6 rfl (lv_at hl 0 rfl) ?_
    refine lv_ifnonnull (tgt := 14) hx hb dX4_sign_7 (by decide) ?_
    refine lv_iload_n hx hb dX4_sign_14 rfl (lv_at hl 3 rfl) ?_
    refine xt_i (As := [.int (xI z2)]) (rest := []) ⟨hx, hb, hml, hown, hts⟩ hl.1 (c_X4_isSign l z2 (by omega)) k_X4_isSign u_ml_RX4_56 rfl rfl (Nat.le_of_ble_eq_true rfl) ⟨Nat.le_of_ble_eq_true rfl, Nat.le_of_ble_eq_true rfl⟩ ⟨Nat.le_of_ble_eq_true rfl, Nat.le_of_ble_eq_true rfl⟩ dX4_sign_15 ?_
    refine x_ifb_ne (tgt := 25) hx hb dX4_sign_18 (by decide)  (fun c_18 => ?_) (fun c_18 => ?_)
    · refine lv_aload_n hx hb dX4_sign_25 rfl (lv_at hl 0 rfl) ?_
      refine lv_aload_n hx hb dX4_sign_26 rfl (lv_at hl 0 rfl) ?_
      refine x_getn (T := TX2) (N := 2) hx hb hts uX2 hown hN hK hP (i := 13 + 2 * b1) (by omega) hr_b1.1 rfl 1 (by decide) (by simp only [xNest, List.mem_cons]; exact Or.inr (Or.inl rfl)) rfl dX4_sign_27 ?_
      refine lv_aload_n hx hb dX4_sign_30 rfl (lv_at hl 1 rfl) ?_
      refine lv_iload_n hx hb dX4_sign_31 rfl (lv_at hl 3 rfl) ?_
      obtain ⟨m0, f0, hr0⟩ := hC.rs
      refine xm_q (i := 0) (As := [.int (xI z2)]) (rest := [.int (xI ((S.1 b1).1 : Int)), .ref (ad (13 + 2 * b1))]) ⟨hx, hb, hml, hown, hts⟩ hl.1 (c_X4_single l D cA n ad en _ (by omega) hC hr0 z2 (by omega)) k_X4_single u_ml_RX4_64 hK hN hP (by omega) hC.1 rfl rfl rfl rfl (Nat.le_of_ble_eq_true rfl) ⟨Nat.le_of_ble_eq_true rfl, Nat.le_of_ble_eq_true rfl⟩ ⟨Nat.le_of_ble_eq_true rfl, Nat.le_of_ble_eq_true rfl⟩ dX4_sign_32 hD hS hA (fun r1 en1 H locs hp1 hP hS => ?_)
      obtain ⟨hr9, hrs, hos⟩ := hp1
      subst hr9
      have hC := hC.spare hos hrs
      have ho : xO 0 53 en en1 := hos.mo (by omega) (by omega)
      have hr_b1 : XR cA ad en1 (13 + 2 * b1) (S.1 b1).1 (S.1 b1).2 := hC.rb h_b1
      have hm_b1 := hr_b1.2.2.1
      refine xm_i (i := 13 + 2 * b1) (As := [.int (xI ((S.1 b1).1 : Int)), .ref (ad 11)]) (rest := []) ⟨hx, hb, hml, hown, hts⟩ hl.1 (c_X2_joinIn l D cA n ad en1 _ (by omega) hr_b1 (by omega) hrs (by omega) ((S.1 b1).1 : Int) (by omega)) k_X2_joinIn u_ml_RX4_67 hK hN hP (by omega) hr_b1.1 rfl rfl rfl rfl (Nat.le_of_ble_eq_true rfl) ⟨Nat.le_of_ble_eq_true rfl, Nat.le_of_ble_eq_true rfl⟩ ⟨Nat.le_of_ble_eq_true rfl, Nat.le_of_ble_eq_true rfl⟩ dX4_sign_35 hD hS hA (fun r2 en2 H locs hp2 hP hS => ?_)
      exact xe_i hx hb hrt hlocks hP hS (by unfold am_sign; simp only [Int.toNat_natCast]; rw [sp_if_f (by omega), sp_if_f (by omega)]; have q9 := x_fin hC h_b1 hp2 (by omega) (a := (S.1 b1).1) (e := (S.1 b1).1) (r0 := ((1, fun _ => z2) : xRow)) (by omega) (by omega) (by first | omega | (simp only []; omega)) (fun _ _ => rfl); exact ⟨q9.1, q9.2.1, (ho.tr (q9.2.2.mo (by omega) (by omega)))⟩) dX4_sign_38
    · refine x_sipush hx hb dX4_sign_21 (by decide +kernel) ?_
      exact xe_i hx hb hrt hlocks hP hS ((by unfold am_sign; simp only [Int.toNat_natCast]; rw [sp_if_f (by omega), sp_if_t (by omega)]; exact ⟨rfl, hC, xO.rf⟩)) dX4_sign_24
  · refine lv_aload_n hx hb dX4_sign_0 rfl (lv_at hl 0 rfl) ?_
    refine lv_iload_n hx hb dX4_sign_1 rfl (lv_at hl 1 rfl) ?_
    refine xv_q (i := 0) (As := [.int (xI z1)]) (rest := []) ⟨hx, hb, hml, hown, hts⟩ hl.1 (c_X4_builderOf_out l D cA n ad en (by omega) hC z1 (by omega) (by omega)) k_X4_builderOf u_ml_RX4_52 hK hN hP (by omega) hC.1 rfl rfl rfl rfl (Nat.le_of_ble_eq_true rfl) ⟨Nat.le_of_ble_eq_true rfl, Nat.le_of_ble_eq_true rfl⟩ ⟨Nat.le_of_ble_eq_true rfl, Nat.le_of_ble_eq_true rfl⟩ dX4_sign_2 ?_
    refine lv_astore_nN (lv' := [(3, .null), (0, .ref (ad 0)), (1, .int (xI z1)), (2, .int (xI z2))]) hx hb dX4_sign_5 rfl hl (by decide) rfl (fun ls hl => ?_)
    refine lv_aload_nN hx hb dX4_sign_6 rfl (lv_at hl 0 rfl) ?_
    refine lv_ifnonnullN hx hb dX4_sign_7 ?_
    refine x_sipush hx hb dX4_sign_10 (by decide +kernel) ?_
    exact xe_i hx hb hrt hlocks hP hS ((by unfold am_sign; rw [sp_if_t (by omega)]; exact ⟨rfl, hC, xO.rf⟩)) dX4_sign_13

set_option maxRecDepth 20000 in
theorem c_X4_signs (l : Launch) (D : va_G) (cA : Nat → ClassId) (n : Nat) (ad : Nat → Nat) (en : Nat → va_E) (sz : Nat) (hn : 53 ≤ n) {S : xSt} (hC : CW cA ad en S) (z1 : Int) (hz1 : -2147483648 ≤ z1 ∧ z1 ≤ 2147483647) (z2 : Int) (hz2 : -2147483648 ≤ z2 ∧ z2 ≤ 2147483647) (z3 : Int64) : Met l yX4_signs (Cond.code yX4_signs cX4_signs 6 (some .int) :: xU) (xrm 3 75) (va_Pc [.ref (ad 0), .int (xI z1), .int (xI z2), .long z3] (xM D cA n ad en sz)) (va_Qi (fun r u => r = xI (am_signs S z1 z2 z3).1 ∧ CW cA ad u (am_signs S z1 z2 z3).2 ∧ xO 0 53 en u) (xE D n ad) (xA n ad sz)) 0 0 (xA n ad sz) := by
  refine xmet (by decide) (Nat.le_of_ble_eq_true rfl) (fun p e s mm args below meth c ls hx hb hrt hml hown hts hlocks hname hB hl => ?_)
  obtain ⟨⟨hP, hK, hN⟩, hsz, hDt⟩ := hB
  have hD : xD (xA n ad sz) n ad := xD_self hDt sz
  have hA : ∀ q : Nat, s.heap.size ≤ q → xA n ad sz q := fun q h => Or.inr (by rw [← hsz]; exact h)
  have hS : va_S (xA n ad sz) s.heap s.heap [] := va_S.rf
  have hown : s.vm.findClass RX4 = some mm.cls := hown
  have hl : lv_has ls 6 [(0, .ref (ad 0)), (1, .int (xI z1)), (2, .int (xI z2)), (3, .long z3)] := hl
  rcases Classical.em (0 ≤ z1 ∧ z1 < 4) with hx_z1 | hx_z1
  · obtain ⟨b1, rfl⟩ : ∃ q : Nat, z1 = (q : Int) := ⟨z1.toNat, by omega⟩
    have h_b1 : b1 < 4 := by omega
    have hr_b1 : XR cA ad en (13 + 2 * b1) (S.1 b1).1 (S.1 b1).2 := hC.rb h_b1
    have hm_b1 := hr_b1.2.2.1
    refine lv_aload_n hx hb dX4_signs_0 rfl (lv_at hl 0 rfl) ?_
    refine lv_iload_n hx hb dX4_signs_1 rfl (lv_at hl 1 rfl) ?_
    refine xv_q (i := 0) (As := [.int (xI (b1 : Int))]) (rest := []) ⟨hx, hb, hml, hown, hts⟩ hl.1 (c_X4_builderOf_in l D cA n ad en (by omega) hC b1 (by omega)) k_X4_builderOf u_ml_RX4_52 hK hN hP (by omega) hC.1 rfl rfl rfl rfl (Nat.le_of_ble_eq_true rfl) ⟨Nat.le_of_ble_eq_true rfl, Nat.le_of_ble_eq_true rfl⟩ ⟨Nat.le_of_ble_eq_true rfl, Nat.le_of_ble_eq_true rfl⟩ dX4_signs_2 ?_
    refine lv_astore (lv' := [(5, .ref (ad (13 + 2 * b1))), (0, .ref (ad 0)), (1, .int (xI (b1 : Int))), (2, .int (xI z2)), (3, .long z3)]) hx hb dX4_signs_5 hl (by decide) rfl (fun ls hl => ?_)
    refine lv_aload hx hb dX4_signs_7 (lv_at hl 0 rfl) ?_
    refine lv_ifnonnull (tgt := 16) hx hb dX4_signs_9 (by decide) ?_
    refine lv_iload_n hx hb dX4_signs_16 rfl (lv_at hl 3 rfl) ?_
    refine x_if_lt (tgt := 26) hx hb dX4_signs_17 (by decide) (by omega) (fun c_17 => ?_) (fun c_17 => ?_)
    · refine x_sipush hx hb dX4_signs_26 (by decide +kernel) ?_
      exact xe_i hx hb hrt hlocks hP hS ((by unfold am_signs; simp only [Int.toNat_natCast]; rw [sp_if_f (by omega), sp_if_t (by omega)]; exact ⟨rfl, hC, xO.rf⟩)) dX4_signs_29
    · refine lv_iload_n hx hb dX4_signs_20 rfl (lv_at hl 3 rfl) ?_
      refine x_bipush hx hb dX4_signs_21 (by decide +kernel) ?_
      refine x_icmp_le (tgt := 30) hx hb dX4_signs_23 (by decide) (by omega) (fun c_23 => ?_) (fun c_23 => ?_)
      · obtain ⟨k2, rfl⟩ : ∃ q : Nat, z2 = (q : Int) := ⟨z2.toNat, by omega⟩
        refine lv_aload hx hb dX4_signs_30 (lv_at hl 0 rfl) ?_
        refine lv_aload hx hb dX4_signs_32 (lv_at hl 0 rfl) ?_
        refine x_getn (T := TX2) (N := 2) hx hb hts uX2 hown hN hK hP (i := 13 + 2 * b1) (by omega) hr_b1.1 rfl 1 (by decide) (by simp only [xNest, List.mem_cons]; exact Or.inr (Or.inl rfl)) rfl dX4_signs_34 ?_
        refine lv_aload_n hx hb dX4_signs_37 rfl (lv_at hl 1 rfl) ?_
        refine lv_iload_n hx hb dX4_signs_38 rfl (lv_at hl 3 rfl) ?_
        refine lv_lload_n hx hb dX4_signs_39 rfl (lv_at hl 4 rfl) ?_
        obtain ⟨m0, f0, hr0⟩ := hC.rs
        refine xm_q (i := 0) (As := [.int (xI (k2 : Int)), .long z3]) (rest := [.int (xI ((S.1 b1).1 : Int)), .ref (ad (13 + 2 * b1))]) ⟨hx, hb, hml, hown, hts⟩ hl.1 (c_X4_lowBytes l D cA n ad en _ (by omega) hC hr0 k2 (by omega) z3) k_X4_lowBytes u_ml_RX4_71 hK hN hP (by omega) hC.1 rfl rfl rfl rfl (Nat.le_of_ble_eq_true rfl) ⟨Nat.le_of_ble_eq_true rfl, Nat.le_of_ble_eq_true rfl⟩ ⟨Nat.le_of_ble_eq_true rfl, Nat.le_of_ble_eq_true rfl⟩ dX4_signs_40 hD hS hA (fun r1 en1 H locs hp1 hP hS => ?_)
        obtain ⟨hr9, hrs, hos⟩ := hp1
        subst hr9
        have hC := hC.spare hos hrs
        have ho : xO 0 53 en en1 := hos.mo (by omega) (by omega)
        have hr_b1 : XR cA ad en1 (13 + 2 * b1) (S.1 b1).1 (S.1 b1).2 := hC.rb h_b1
        have hm_b1 := hr_b1.2.2.1
        refine xm_i (i := 13 + 2 * b1) (As := [.int (xI ((S.1 b1).1 : Int)), .ref (ad 11)]) (rest := []) ⟨hx, hb, hml, hown, hts⟩ hl.1 (c_X2_joinIn l D cA n ad en1 _ (by omega) hr_b1 (by omega) hrs (by omega) ((S.1 b1).1 : Int) (by omega)) k_X2_joinIn u_ml_RX4_67 hK hN hP (by omega) hr_b1.1 rfl rfl rfl rfl (Nat.le_of_ble_eq_true rfl) ⟨Nat.le_of_ble_eq_true rfl, Nat.le_of_ble_eq_true rfl⟩ ⟨Nat.le_of_ble_eq_true rfl, Nat.le_of_ble_eq_true rfl⟩ dX4_signs_43 hD hS hA (fun r2 en2 H locs hp2 hP hS => ?_)
        exact xe_i hx hb hrt hlocks hP hS (by unfold am_signs; simp only [Int.toNat_natCast]; rw [sp_if_f (by omega), sp_if_f (by omega)]; have q9 := x_fin hC h_b1 hp2 (by omega) (a := (S.1 b1).1) (e := (S.1 b1).1) (r0 := ((k2, fun q => sp_by z3 (k2 - 1 - q)) : xRow)) (by omega) (by omega) (by first | omega | (simp only []; omega)) (fun t ht => by rw [show Int.toNat 0 + t = t from Nat.zero_add t]); exact ⟨q9.1, q9.2.1, (ho.tr (q9.2.2.mo (by omega) (by omega)))⟩) dX4_signs_46
      · refine x_sipush hx hb dX4_signs_26 (by decide +kernel) ?_
        exact xe_i hx hb hrt hlocks hP hS ((by unfold am_signs; simp only [Int.toNat_natCast]; rw [sp_if_f (by omega), sp_if_t (by omega)]; exact ⟨rfl, hC, xO.rf⟩)) dX4_signs_29
  · refine lv_aload_n hx hb dX4_signs_0 rfl (lv_at hl 0 rfl) ?_
    refine lv_iload_n hx hb dX4_signs_1 rfl (lv_at hl 1 rfl) ?_
    refine xv_q (i := 0) (As := [.int (xI z1)]) (rest := []) ⟨hx, hb, hml, hown, hts⟩ hl.1 (c_X4_builderOf_out l D cA n ad en (by omega) hC z1 (by omega) (by omega)) k_X4_builderOf u_ml_RX4_52 hK hN hP (by omega) hC.1 rfl rfl rfl rfl (Nat.le_of_ble_eq_true rfl) ⟨Nat.le_of_ble_eq_true rfl, Nat.le_of_ble_eq_true rfl⟩ ⟨Nat.le_of_ble_eq_true rfl, Nat.le_of_ble_eq_true rfl⟩ dX4_signs_2 ?_
    refine lv_astoreN (lv' := [(5, .null), (0, .ref (ad 0)), (1, .int (xI z1)), (2, .int (xI z2)), (3, .long z3)]) hx hb dX4_signs_5 hl (by decide) rfl (fun ls hl => ?_)
    refine lv_aloadN hx hb dX4_signs_7 (lv_at hl 0 rfl) ?_
    refine lv_ifnonnullN hx hb dX4_signs_9 ?_
    refine x_sipush hx hb dX4_signs_12 (by decide +kernel) ?_
    exact xe_i hx hb hrt hlocks hP hS ((by unfold am_signs; rw [sp_if_t (by omega)]; exact ⟨rfl, hC, xO.rf⟩)) dX4_signs_15
