def sp_cmp (a b : Int) : Int := if a < b then -1 else if a = b then 0 else 1

set_option maxRecDepth 20000 in
theorem c_J6_compare (l : Launch) (z1 z2 : Int) (hz1 : -2147483648 ≤ z1 ∧ z1 ≤ 2147483647) (hz2 : -2147483648 ≤ z2 ∧ z2 ≤ 2147483647) : Met l yJ6_compare_7cf53 (Cond.code yJ6_compare_7cf53 cJ6_compare_7cf53 2 (some .int) :: xU) (xrm 0 0) (va_Pc [.int (xI z1), .int (xI z2)] (fun _ => True)) (vp_Si (fun z => z = xI (sp_cmp z1 z2))) 0 0 (fun _ => False) := by
  refine xmet (by decide) (Nat.le_of_ble_eq_true rfl) (fun p e s mm args below meth c ls hx hb hrt hml hown hts hlocks hname hB hl => ?_)
  have hl : lv_has ls 2 [(0, .int (xI z1)), (1, .int (xI z2))] := hl
  refine lv_iload_n hx hb dJ6_compare_7cf53_0 rfl (lv_at hl 0 rfl) ?_
  refine lv_iload_n hx hb dJ6_compare_7cf53_1 rfl (lv_at hl 1 rfl) ?_
  refine x_icmp_ge (tgt := 9) hx hb dJ6_compare_7cf53_2 (by decide) (by omega) (fun c_2 => ?_) (fun c_2 => ?_)
  · refine lv_iload_n hx hb dJ6_compare_7cf53_9 rfl (lv_at hl 0 rfl) ?_
    refine lv_iload_n hx hb dJ6_compare_7cf53_10 rfl (lv_at hl 1 rfl) ?_
    refine x_icmp_ne (tgt := 18) hx hb dJ6_compare_7cf53_11 (by decide) (by omega) (fun c_11 => ?_) (fun c_11 => ?_)
    · refine x_iconst hx hb dJ6_compare_7cf53_18 ?_
      exact xr_i hx hb hrt hlocks (congrArg xI (by unfold sp_cmp; omega)) dJ6_compare_7cf53_19
    · refine x_iconst hx hb dJ6_compare_7cf53_14 ?_
      refine lv_goto (tgt := 19) hx hb dJ6_compare_7cf53_15 (by decide) ?_
      exact xr_i hx hb hrt hlocks (congrArg xI (by unfold sp_cmp; omega)) dJ6_compare_7cf53_19
  · refine x_iconst hx hb dJ6_compare_7cf53_5 ?_
    refine lv_goto (tgt := 19) hx hb dJ6_compare_7cf53_6 (by decide) ?_
    exact xr_i hx hb hrt hlocks (congrArg xI (by unfold sp_cmp; omega)) dJ6_compare_7cf53_19

theorem sp_o_b {f h : Nat → Int} {d : Int} {n : Nat} (hf : ∀ t : Nat, t < n → 0 ≤ f t ∧ f t ≤ 255) (hh : ∀ t : Nat, t < n → 0 ≤ h t ∧ h t ≤ 255) (hd : -255 ≤ d ∧ d ≤ 255) : ∀ k a : Nat, a + k ≤ n → -255 ≤ sp_o f h d k a ∧ sp_o f h d k a ≤ 255 := by
  intro k
  induction k with
  | zero => intro a _; exact hd
  | succ k ih =>
    intro a ha
    rw [sp_o]
    split
    · exact ih (a + 1) (by omega)
    · have h1 := hf a (by omega)
      have h2 := hh a (by omega)
      omega
theorem sp_ord_b {f h : Nat → Int} {m k : Nat} (hm : m ≤ 200) (hk : k ≤ 200) (hf : ∀ t : Nat, t < m → 0 ≤ f t ∧ f t ≤ 255) (hh : ∀ t : Nat, t < k → 0 ≤ h t ∧ h t ≤ 255) : -255 ≤ sp_ord f h ((m : Int) - (k : Int)) 0 (min (m : Int) (k : Int)) ∧ sp_ord f h ((m : Int) - (k : Int)) 0 (min (m : Int) (k : Int)) ≤ 255 := by
  unfold sp_ord
  exact sp_o_b (n := min m k) (fun t ht => hf t (by omega)) (fun t ht => hh t (by omega)) (by omega) _ _ (by omega)
theorem sp_sg_cmp (z : Int) : sp_cmp z 0 = sp_sg z := by unfold sp_cmp sp_sg; omega

set_option maxRecDepth 20000 in
theorem c_X4_ahead (l : Launch) (D : va_G) (cA : Nat → ClassId) (n : Nat) (ad : Nat → Nat) (en : Nat → va_E) (hn : 53 ≤ n) {S : xSt} (hC : CW cA ad en S) (z1 : Int) (hz1 : -2147483648 ≤ z1 ∧ z1 ≤ 2147483647) (z2 : Int) (hz2 : -2147483648 ≤ z2 ∧ z2 ≤ 2147483647) : Met l yX4_ahead (Cond.code yX4_ahead cX4_ahead 5 (some .int) :: xU) (xrm 3 66) (va_Pc [.ref (ad 0), .int (xI z1), .int (xI z2)] (xB D cA n ad en)) (vp_Si (fun z => z = xI (am_ahead S z1 z2))) 0 0 (fun _ => False) := by
  refine xmet (by decide) (Nat.le_of_ble_eq_true rfl) (fun p e s mm args below meth c ls hx hb hrt hml hown hts hlocks hname hB hl => ?_)
  obtain ⟨hP, hK, hN⟩ := hB
  have hl : lv_has ls 5 [(0, .ref (ad 0)), (1, .int (xI z1)), (2, .int (xI z2))] := hl
  rcases Classical.em (0 ≤ z1 ∧ z1 < 4) with hx_z1 | hx_z1
  · obtain ⟨b1, rfl⟩ : ∃ q : Nat, z1 = (q : Int) := ⟨z1.toNat, by omega⟩
    have h_b1 : b1 < 4 := by omega
    rcases Classical.em (0 ≤ z2 ∧ z2 < 4) with hx_z2 | hx_z2
    · obtain ⟨b2, rfl⟩ : ∃ q : Nat, z2 = (q : Int) := ⟨z2.toNat, by omega⟩
      have h_b2 : b2 < 4 := by omega
      have hr_b1 : XR cA ad en (13 + 2 * b1) (S.1 b1).1 (S.1 b1).2 := hC.rb h_b1
      have hm_b1 := hr_b1.2.2.1
      have hr_b2 : XR cA ad en (13 + 2 * b2) (S.1 b2).1 (S.1 b2).2 := hC.rb h_b2
      have hm_b2 := hr_b2.2.2.1
      refine lv_aload_n hx hb dX4_ahead_0 rfl (lv_at hl 0 rfl) ?_
      refine lv_iload_n hx hb dX4_ahead_1 rfl (lv_at hl 1 rfl) ?_
      refine xv_q (i := 0) (As := [.int (xI (b1 : Int))]) (rest := []) ⟨hx, hb, hml, hown, hts⟩ hl.1 (c_X4_builderOf_in l D cA n ad en (by omega) hC b1 (by omega)) k_X4_builderOf u_ml_RX4_52 hK hN hP (by omega) hC.1 rfl rfl rfl rfl (Nat.le_of_ble_eq_true rfl) ⟨Nat.le_of_ble_eq_true rfl, Nat.le_of_ble_eq_true rfl⟩ ⟨Nat.le_of_ble_eq_true rfl, Nat.le_of_ble_eq_true rfl⟩ dX4_ahead_2 ?_
      refine lv_astore_n (lv' := [(3, .ref (ad (13 + 2 * b1))), (0, .ref (ad 0)), (1, .int (xI (b1 : Int))), (2, .int (xI (b2 : Int)))]) hx hb dX4_ahead_5 rfl hl (by decide) rfl (fun ls hl => ?_)
      refine lv_aload_n hx hb dX4_ahead_6 rfl (lv_at hl 1 rfl) ?_
      refine lv_iload_n hx hb dX4_ahead_7 rfl (lv_at hl 3 rfl) ?_
      refine xv_q (i := 0) (As := [.int (xI (b2 : Int))]) (rest := []) ⟨hx, hb, hml, hown, hts⟩ hl.1 (c_X4_builderOf_in l D cA n ad en (by omega) hC b2 (by omega)) k_X4_builderOf u_ml_RX4_52 hK hN hP (by omega) hC.1 rfl rfl rfl rfl (Nat.le_of_ble_eq_true rfl) ⟨Nat.le_of_ble_eq_true rfl, Nat.le_of_ble_eq_true rfl⟩ ⟨Nat.le_of_ble_eq_true rfl, Nat.le_of_ble_eq_true rfl⟩ dX4_ahead_8 ?_
      refine lv_astore (lv' := [(4, .ref (ad (13 + 2 * b2))), (3, .ref (ad (13 + 2 * b1))), (0, .ref (ad 0)), (1, .int (xI (b1 : Int))), (2, .int (xI (b2 : Int)))]) hx hb dX4_ahead_11 hl (by decide) rfl (fun ls hl => ?_)
      refine lv_aload_n hx hb dX4_ahead_13 rfl (lv_at hl 1 rfl) ?_
      refine lv_ifnull hx hb dX4_ahead_14 ?_
      refine lv_aload hx hb dX4_ahead_17 (lv_at hl 0 rfl) ?_
      refine lv_ifnonnull (tgt := 26) hx hb dX4_ahead_19 (by decide) ?_
      refine lv_aload_n hx hb dX4_ahead_26 rfl (lv_at hl 1 rfl) ?_
      refine lv_aload hx hb dX4_ahead_27 (lv_at hl 0 rfl) ?_
      refine xv_i (i := 13 + 2 * b1) (As := [.ref (ad (13 + 2 * b2))]) (rest := []) ⟨hx, hb, hml, hown, hts⟩ hl.1 (c_X2_against l D cA n ad en (by omega) hr_b1 (by omega) hr_b2  ) k_X2_against u_ml_RX4_133 hK hN hP (by omega) hr_b1.1 rfl rfl rfl rfl (Nat.le_of_ble_eq_true rfl) ⟨Nat.le_of_ble_eq_true rfl, Nat.le_of_ble_eq_true rfl⟩ ⟨Nat.le_of_ble_eq_true rfl, Nat.le_of_ble_eq_true rfl⟩ dX4_ahead_29 ?_
      have hob := sp_ord_b hm_b1 hm_b2 hr_b1.2.2.2 hr_b2.2.2.2
      refine x_iconst hx hb dX4_ahead_32 ?_
      refine xt_i (As := [.int (xI (sp_ord ((S.1 b1).2) ((S.1 b2).2) (((S.1 b1).1 : Int) - ((S.1 b2).1 : Int)) 0 (min ((S.1 b1).1 : Int) ((S.1 b2).1 : Int)))), .int (xI 0)]) (rest := []) ⟨hx, hb, hml, hown, hts⟩ hl.1 (c_J6_compare l (sp_ord ((S.1 b1).2) ((S.1 b2).2) (((S.1 b1).1 : Int) - ((S.1 b2).1 : Int)) 0 (min ((S.1 b1).1 : Int) ((S.1 b2).1 : Int))) 0 (by omega) (by omega)) k_J6_compare_7cf53 u_ml_RX4_137 rfl rfl (Nat.le_of_ble_eq_true rfl) ⟨Nat.le_of_ble_eq_true rfl, Nat.le_of_ble_eq_true rfl⟩ ⟨Nat.le_of_ble_eq_true rfl, Nat.le_of_ble_eq_true rfl⟩ dX4_ahead_33 ?_
      exact xr_i hx hb hrt hlocks ((by unfold am_ahead; simp only [Int.toNat_natCast]; rw [sp_if_f (by omega)]; rw [sp_sg_cmp])) dX4_ahead_36
    · have hr_b1 : XR cA ad en (13 + 2 * b1) (S.1 b1).1 (S.1 b1).2 := hC.rb h_b1
      have hm_b1 := hr_b1.2.2.1
      refine lv_aload_n hx hb dX4_ahead_0 rfl (lv_at hl 0 rfl) ?_
      refine lv_iload_n hx hb dX4_ahead_1 rfl (lv_at hl 1 rfl) ?_
      refine xv_q (i := 0) (As := [.int (xI (b1 : Int))]) (rest := []) ⟨hx, hb, hml, hown, hts⟩ hl.1 (c_X4_builderOf_in l D cA n ad en (by omega) hC b1 (by omega)) k_X4_builderOf u_ml_RX4_52 hK hN hP (by omega) hC.1 rfl rfl rfl rfl (Nat.le_of_ble_eq_true rfl) ⟨Nat.le_of_ble_eq_true rfl, Nat.le_of_ble_eq_true rfl⟩ ⟨Nat.le_of_ble_eq_true rfl, Nat.le_of_ble_eq_true rfl⟩ dX4_ahead_2 ?_
      refine lv_astore_n (lv' := [(3, .ref (ad (13 + 2 * b1))), (0, .ref (ad 0)), (1, .int (xI (b1 : Int))), (2, .int (xI z2))]) hx hb dX4_ahead_5 rfl hl (by decide) rfl (fun ls hl => ?_)
      refine lv_aload_n hx hb dX4_ahead_6 rfl (lv_at hl 1 rfl) ?_
      refine lv_iload_n hx hb dX4_ahead_7 rfl (lv_at hl 3 rfl) ?_
      refine xv_q (i := 0) (As := [.int (xI z2)]) (rest := []) ⟨hx, hb, hml, hown, hts⟩ hl.1 (c_X4_builderOf_out l D cA n ad en (by omega) hC z2 (by omega) (by omega)) k_X4_builderOf u_ml_RX4_52 hK hN hP (by omega) hC.1 rfl rfl rfl rfl (Nat.le_of_ble_eq_true rfl) ⟨Nat.le_of_ble_eq_true rfl, Nat.le_of_ble_eq_true rfl⟩ ⟨Nat.le_of_ble_eq_true rfl, Nat.le_of_ble_eq_true rfl⟩ dX4_ahead_8 ?_
      refine lv_astoreN (lv' := [(4, .null), (3, .ref (ad (13 + 2 * b1))), (0, .ref (ad 0)), (1, .int (xI (b1 : Int))), (2, .int (xI z2))]) hx hb dX4_ahead_11 hl (by decide) rfl (fun ls hl => ?_)
      refine lv_aload_n hx hb dX4_ahead_13 rfl (lv_at hl 1 rfl) ?_
      refine lv_ifnull hx hb dX4_ahead_14 ?_
      refine lv_aloadN hx hb dX4_ahead_17 (lv_at hl 0 rfl) ?_
      refine lv_ifnonnullN hx hb dX4_ahead_19 ?_
      refine x_sipush hx hb dX4_ahead_22 (by decide +kernel) ?_
      exact xr_i hx hb hrt hlocks ((by unfold am_ahead; simp only [Int.toNat_natCast]; rw [sp_if_t (by omega)])) dX4_ahead_25
  · rcases Classical.em (0 ≤ z2 ∧ z2 < 4) with hx_z2 | hx_z2
    · obtain ⟨b2, rfl⟩ : ∃ q : Nat, z2 = (q : Int) := ⟨z2.toNat, by omega⟩
      have h_b2 : b2 < 4 := by omega
      have hr_b2 : XR cA ad en (13 + 2 * b2) (S.1 b2).1 (S.1 b2).2 := hC.rb h_b2
      have hm_b2 := hr_b2.2.2.1
      refine lv_aload_n hx hb dX4_ahead_0 rfl (lv_at hl 0 rfl) ?_
      refine lv_iload_n hx hb dX4_ahead_1 rfl (lv_at hl 1 rfl) ?_
      refine xv_q (i := 0) (As := [.int (xI z1)]) (rest := []) ⟨hx, hb, hml, hown, hts⟩ hl.1 (c_X4_builderOf_out l D cA n ad en (by omega) hC z1 (by omega) (by omega)) k_X4_builderOf u_ml_RX4_52 hK hN hP (by omega) hC.1 rfl rfl rfl rfl (Nat.le_of_ble_eq_true rfl) ⟨Nat.le_of_ble_eq_true rfl, Nat.le_of_ble_eq_true rfl⟩ ⟨Nat.le_of_ble_eq_true rfl, Nat.le_of_ble_eq_true rfl⟩ dX4_ahead_2 ?_
      refine lv_astore_nN (lv' := [(3, .null), (0, .ref (ad 0)), (1, .int (xI z1)), (2, .int (xI (b2 : Int)))]) hx hb dX4_ahead_5 rfl hl (by decide) rfl (fun ls hl => ?_)
      refine lv_aload_n hx hb dX4_ahead_6 rfl (lv_at hl 1 rfl) ?_
      refine lv_iload_n hx hb dX4_ahead_7 rfl (lv_at hl 3 rfl) ?_
      refine xv_q (i := 0) (As := [.int (xI (b2 : Int))]) (rest := []) ⟨hx, hb, hml, hown, hts⟩ hl.1 (c_X4_builderOf_in l D cA n ad en (by omega) hC b2 (by omega)) k_X4_builderOf u_ml_RX4_52 hK hN hP (by omega) hC.1 rfl rfl rfl rfl (Nat.le_of_ble_eq_true rfl) ⟨Nat.le_of_ble_eq_true rfl, Nat.le_of_ble_eq_true rfl⟩ ⟨Nat.le_of_ble_eq_true rfl, Nat.le_of_ble_eq_true rfl⟩ dX4_ahead_8 ?_
      refine lv_astore (lv' := [(4, .ref (ad (13 + 2 * b2))), (3, .null), (0, .ref (ad 0)), (1, .int (xI z1)), (2, .int (xI (b2 : Int)))]) hx hb dX4_ahead_11 hl (by decide) rfl (fun ls hl => ?_)
      refine lv_aload_nN hx hb dX4_ahead_13 rfl (lv_at hl 1 rfl) ?_
      refine lv_ifnullN (tgt := 22) hx hb dX4_ahead_14 (by decide) ?_
      refine x_sipush hx hb dX4_ahead_22 (by decide +kernel) ?_
      exact xr_i hx hb hrt hlocks ((by unfold am_ahead; simp only [Int.toNat_natCast]; rw [sp_if_t (by omega)])) dX4_ahead_25
    · refine lv_aload_n hx hb dX4_ahead_0 rfl (lv_at hl 0 rfl) ?_
      refine lv_iload_n hx hb dX4_ahead_1 rfl (lv_at hl 1 rfl) ?_
      refine xv_q (i := 0) (As := [.int (xI z1)]) (rest := []) ⟨hx, hb, hml, hown, hts⟩ hl.1 (c_X4_builderOf_out l D cA n ad en (by omega) hC z1 (by omega) (by omega)) k_X4_builderOf u_ml_RX4_52 hK hN hP (by omega) hC.1 rfl rfl rfl rfl (Nat.le_of_ble_eq_true rfl) ⟨Nat.le_of_ble_eq_true rfl, Nat.le_of_ble_eq_true rfl⟩ ⟨Nat.le_of_ble_eq_true rfl, Nat.le_of_ble_eq_true rfl⟩ dX4_ahead_2 ?_
      refine lv_astore_nN (lv' := [(3, .null), (0, .ref (ad 0)), (1, .int (xI z1)), (2, .int (xI z2))]) hx hb dX4_ahead_5 rfl hl (by decide) rfl (fun ls hl => ?_)
      refine lv_aload_n hx hb dX4_ahead_6 rfl (lv_at hl 1 rfl) ?_
      refine lv_iload_n hx hb dX4_ahead_7 rfl (lv_at hl 3 rfl) ?_
      refine xv_q (i := 0) (As := [.int (xI z2)]) (rest := []) ⟨hx, hb, hml, hown, hts⟩ hl.1 (c_X4_builderOf_out l D cA n ad en (by omega) hC z2 (by omega) (by omega)) k_X4_builderOf u_ml_RX4_52 hK hN hP (by omega) hC.1 rfl rfl rfl rfl (Nat.le_of_ble_eq_true rfl) ⟨Nat.le_of_ble_eq_true rfl, Nat.le_of_ble_eq_true rfl⟩ ⟨Nat.le_of_ble_eq_true rfl, Nat.le_of_ble_eq_true rfl⟩ dX4_ahead_8 ?_
      refine lv_astoreN (lv' := [(4, .null), (3, .null), (0, .ref (ad 0)), (1, .int (xI z1)), (2, .int (xI z2))]) hx hb dX4_ahead_11 hl (by decide) rfl (fun ls hl => ?_)
      refine lv_aload_nN hx hb dX4_ahead_13 rfl (lv_at hl 1 rfl) ?_
      refine lv_ifnullN (tgt := 22) hx hb dX4_ahead_14 (by decide) ?_
      refine x_sipush hx hb dX4_ahead_22 (by decide +kernel) ?_
      exact xr_i hx hb hrt hlocks ((by unfold am_ahead; rw [sp_if_t (by omega)])) dX4_ahead_25

set_option maxRecDepth 20000 in
theorem c_X4_forget (l : Launch) (D : va_G) (cA : Nat → ClassId) (n : Nat) (ad : Nat → Nat) (en : Nat → va_E) (sz : Nat) (hn : 53 ≤ n) {S : xSt} (hC : CW cA ad en S) (z1 : Int) (hz1 : -2147483648 ≤ z1 ∧ z1 ≤ 2147483647) : Met l yX4_forget (Cond.code yX4_forget cX4_forget 3 (some .int) :: xU) (xrm 1 21) (va_Pc [.ref (ad 0), .int (xI z1)] (xM D cA n ad en sz)) (va_Qi (fun r u => r = xI (am_forget S z1).1 ∧ CW cA ad u (am_forget S z1).2 ∧ xO 0 53 en u) (xE D n ad) (xA n ad sz)) 0 0 (xA n ad sz) := by
  refine xmet (by decide) (Nat.le_of_ble_eq_true rfl) (fun p e s mm args below meth c ls hx hb hrt hml hown hts hlocks hname hB hl => ?_)
  obtain ⟨⟨hP, hK, hN⟩, hsz, hDt⟩ := hB
  have hD : xD (xA n ad sz) n ad := xD_self hDt sz
  have hA : ∀ q : Nat, s.heap.size ≤ q → xA n ad sz q := fun q h => Or.inr (by rw [← hsz]; exact h)
  have hS : va_S (xA n ad sz) s.heap s.heap [] := va_S.rf
  have hown : s.vm.findClass RX4 = some mm.cls := hown
  have hl : lv_has ls 3 [(0, .ref (ad 0)), (1, .int (xI z1))] := hl
  rcases Classical.em (0 ≤ z1 ∧ z1 < 8) with hx_z1 | hx_z1
  · obtain ⟨t1, rfl⟩ : ∃ q : Nat, z1 = (q : Int) := ⟨z1.toNat, by omega⟩
    have h_t1 : t1 < 8 := by omega
    rcases hS_t1 : S.2.1 t1 with _ | r_t1
    · have hT_t1 : XT cA ad en (21 + 3 * t1) none := by have q : XT cA ad en (21 + 3 * t1) (S.2.1 t1) := hC.rt h_t1; rw [hS_t1] at q; exact q
      refine lv_aload_n hx hb dX4_forget_0 rfl (lv_at hl 0 rfl) ?_
      refine lv_iload_n hx hb dX4_forget_1 rfl (lv_at hl 1 rfl) ?_
      refine xv_q (i := 0) (As := [.int (xI (t1 : Int))]) (rest := []) ⟨hx, hb, hml, hown, hts⟩ hl.1 (c_X4_textOf_in l D cA n ad en (by omega) hC t1 (by omega)) k_X4_textOf u_ml_RX4_97 hK hN hP (by omega) hC.1 rfl rfl rfl rfl (Nat.le_of_ble_eq_true rfl) ⟨Nat.le_of_ble_eq_true rfl, Nat.le_of_ble_eq_true rfl⟩ ⟨Nat.le_of_ble_eq_true rfl, Nat.le_of_ble_eq_true rfl⟩ dX4_forget_2 ?_
      refine lv_astore_n (lv' := [(2, .ref (ad (21 + 3 * t1))), (0, .ref (ad 0)), (1, .int (xI (t1 : Int)))]) hx hb dX4_forget_5 rfl hl (by decide) rfl (fun ls hl => ?_)
      refine lv_aload_n hx hb dX4_forget_6 rfl (lv_at hl 0 rfl) ?_
      refine lv_ifnonnull (tgt := 14) hx hb dX4_forget_7 (by decide) ?_
      refine lv_aload_n hx hb dX4_forget_14 rfl (lv_at hl 0 rfl) ?_
      refine x_getn (T := TX3) (N := 2) hx hb hts uX3 hown hN hK hP (i := 21 + 3 * t1) (by omega) hT_t1.1 rfl 1 (by decide) (by simp only [xNest, List.mem_cons]; exact Or.inr (Or.inr (Or.inr (Or.inr (Or.inr (Or.inr (Or.inl rfl))))))) rfl dX4_forget_15 ?_
      refine x_if_eq (tgt := 23) hx hb dX4_forget_18 (by decide) (by omega) (fun c_18 => absurd c_18 (by omega)) (fun c_18 => ?_)
      refine x_iconst hx hb dX4_forget_21 ?_
      exact xe_i hx hb hrt hlocks hP hS ((by unfold am_forget; simp only [Int.toNat_natCast]; rw [sp_if_f (by omega), sp_if_t (by simp [hS_t1])]; exact ⟨rfl, hC, xO.rf⟩)) dX4_forget_22
    · have hT_t1 : XT cA ad en (21 + 3 * t1) (some r_t1) := by have q : XT cA ad en (21 + 3 * t1) (S.2.1 t1) := hC.rt h_t1; rw [hS_t1] at q; exact q
      have hr_t1 := hT_t1.2
      have hm_t1 := hr_t1.2.2.1
      refine lv_aload_n hx hb dX4_forget_0 rfl (lv_at hl 0 rfl) ?_
      refine lv_iload_n hx hb dX4_forget_1 rfl (lv_at hl 1 rfl) ?_
      refine xv_q (i := 0) (As := [.int (xI (t1 : Int))]) (rest := []) ⟨hx, hb, hml, hown, hts⟩ hl.1 (c_X4_textOf_in l D cA n ad en (by omega) hC t1 (by omega)) k_X4_textOf u_ml_RX4_97 hK hN hP (by omega) hC.1 rfl rfl rfl rfl (Nat.le_of_ble_eq_true rfl) ⟨Nat.le_of_ble_eq_true rfl, Nat.le_of_ble_eq_true rfl⟩ ⟨Nat.le_of_ble_eq_true rfl, Nat.le_of_ble_eq_true rfl⟩ dX4_forget_2 ?_
      refine lv_astore_n (lv' := [(2, .ref (ad (21 + 3 * t1))), (0, .ref (ad 0)), (1, .int (xI (t1 : Int)))]) hx hb dX4_forget_5 rfl hl (by decide) rfl (fun ls hl => ?_)
      refine lv_aload_n hx hb dX4_forget_6 rfl (lv_at hl 0 rfl) ?_
      refine lv_ifnonnull (tgt := 14) hx hb dX4_forget_7 (by decide) ?_
      refine lv_aload_n hx hb dX4_forget_14 rfl (lv_at hl 0 rfl) ?_
      refine x_getn (T := TX3) (N := 2) hx hb hts uX3 hown hN hK hP (i := 21 + 3 * t1) (by omega) hT_t1.1 rfl 1 (by decide) (by simp only [xNest, List.mem_cons]; exact Or.inr (Or.inr (Or.inr (Or.inr (Or.inr (Or.inr (Or.inl rfl))))))) rfl dX4_forget_15 ?_
      refine x_if_eq (tgt := 23) hx hb dX4_forget_18 (by decide) (by omega) (fun c_18 => ?_) (fun c_18 => absurd c_18 (by omega))
      refine lv_aload_n hx hb dX4_forget_23 rfl (lv_at hl 0 rfl) ?_
      refine x_iconst hx hb dX4_forget_24 ?_
      refine x_putn (T := TX3) (N := 2) (ty := .boolean) hx hb hts uX3 tyX3 tyX3_ok nmX3 hown hN hK hP hD hS (i := 21 + 3 * t1) (by omega) hT_t1.1 rfl 1 (by decide) (by simp only [xNest, List.mem_cons]; exact Or.inr (Or.inr (Or.inr (Or.inr (Or.inr (Or.inr (Or.inl rfl))))))) rfl (by decide +kernel) (by first | exact xb_nar _ | decide +kernel) (by first | exact xb_fit _ | decide +kernel) (by show 1 < 2; decide) dX4_forget_25 (fun H locs hP hS => ?_)
      have hP : va_P D vwCl (xw n ad (va_up en (21 + 3 * t1) (.inr (3, [.ref (ad (21 + 3 * t1 + 1)), .int (xI 1)])))) H := hP
      obtain ⟨en1, he1⟩ : ∃ z, z = va_up en (21 + 3 * t1) (.inr (3, [.ref (ad (21 + 3 * t1 + 1)), .int (xI 1)])) := ⟨_, rfl⟩
      rw [← he1] at hP
      have ho1 : en1 (21 + 3 * t1) = (.inr (3, [.ref (ad (21 + 3 * t1 + 1)), .int (xI 1)])) := by rw [he1, va_up_self]
      have hk2 := (show en1 0 = en 0 from by rw [he1, va_up_ne _ _ (by omega)]).trans hC.1
      have hk3 := (show en1 (21 + 3 * t1 + 1) = en (21 + 3 * t1 + 1) from by rw [he1, va_up_ne _ _ (by omega)]).trans hr_t1.1
      have hoc : xO (21 + 3 * t1) ((21 + 3 * t1) + 3) en en1 := by rw [he1]; exact xO.rf.up (by omega) (by omega)
      have hC9 := hC.text (o := none) h_t1 (hoc.mo (by omega) (by omega)) ⟨ho1, r_t1.1, r_t1.2, hr_t1.kp (by rw [he1, va_up_ne _ _ (by omega)]) (by rw [he1, va_up_ne _ _ (by omega)])⟩
      have ho : xO 0 53 en en1 := hoc.mo (by omega) (by omega)
      refine x_iconst hx hb dX4_forget_28 ?_
      exact xe_i hx hb hrt hlocks hP hS ((by unfold am_forget; simp only [Int.toNat_natCast]; rw [sp_if_f (by omega), sp_if_f (by simp [hS_t1])]; exact ⟨rfl, hC9, ho⟩)) dX4_forget_29
  · refine lv_aload_n hx hb dX4_forget_0 rfl (lv_at hl 0 rfl) ?_
    refine lv_iload_n hx hb dX4_forget_1 rfl (lv_at hl 1 rfl) ?_
    refine xv_q (i := 0) (As := [.int (xI z1)]) (rest := []) ⟨hx, hb, hml, hown, hts⟩ hl.1 (c_X4_textOf_out l D cA n ad en (by omega) hC z1 (by omega) (by omega)) k_X4_textOf u_ml_RX4_97 hK hN hP (by omega) hC.1 rfl rfl rfl rfl (Nat.le_of_ble_eq_true rfl) ⟨Nat.le_of_ble_eq_true rfl, Nat.le_of_ble_eq_true rfl⟩ ⟨Nat.le_of_ble_eq_true rfl, Nat.le_of_ble_eq_true rfl⟩ dX4_forget_2 ?_
    refine lv_astore_nN (lv' := [(2, .null), (0, .ref (ad 0)), (1, .int (xI z1))]) hx hb dX4_forget_5 rfl hl (by decide) rfl (fun ls hl => ?_)
    refine lv_aload_nN hx hb dX4_forget_6 rfl (lv_at hl 0 rfl) ?_
    refine lv_ifnonnullN hx hb dX4_forget_7 ?_
    refine x_sipush hx hb dX4_forget_10 (by decide +kernel) ?_
    exact xe_i hx hb hrt hlocks hP hS ((by unfold am_forget; rw [sp_if_t (by omega)]; exact ⟨rfl, hC, xO.rf⟩)) dX4_forget_13

set_option maxRecDepth 20000 in
theorem c_X4_textSize (l : Launch) (D : va_G) (cA : Nat → ClassId) (n : Nat) (ad : Nat → Nat) (en : Nat → va_E) (hn : 53 ≤ n) {S : xSt} (hC : CW cA ad en S) (z1 : Int) (hz1 : -2147483648 ≤ z1 ∧ z1 ≤ 2147483647) : Met l yX4_textSize (Cond.code yX4_textSize cX4_textSize 3 (some .int) :: xU) (xrm 1 21) (va_Pc [.ref (ad 0), .int (xI z1)] (xB D cA n ad en)) (vp_Si (fun z => z = xI (am_textSize S z1))) 0 0 (fun _ => False) := by
  refine xmet (by decide) (Nat.le_of_ble_eq_true rfl) (fun p e s mm args below meth c ls hx hb hrt hml hown hts hlocks hname hB hl => ?_)
  obtain ⟨hP, hK, hN⟩ := hB
  have hl : lv_has ls 3 [(0, .ref (ad 0)), (1, .int (xI z1))] := hl
  rcases Classical.em (0 ≤ z1 ∧ z1 < 8) with hx_z1 | hx_z1
  · obtain ⟨t1, rfl⟩ : ∃ q : Nat, z1 = (q : Int) := ⟨z1.toNat, by omega⟩
    have h_t1 : t1 < 8 := by omega
    rcases hS_t1 : S.2.1 t1 with _ | r_t1
    · have hT_t1 : XT cA ad en (21 + 3 * t1) none := by have q : XT cA ad en (21 + 3 * t1) (S.2.1 t1) := hC.rt h_t1; rw [hS_t1] at q; exact q
      refine lv_aload_n hx hb dX4_textSize_0 rfl (lv_at hl 0 rfl) ?_
      refine lv_iload_n hx hb dX4_textSize_1 rfl (lv_at hl 1 rfl) ?_
      refine xv_q (i := 0) (As := [.int (xI (t1 : Int))]) (rest := []) ⟨hx, hb, hml, hown, hts⟩ hl.1 (c_X4_textOf_in l D cA n ad en (by omega) hC t1 (by omega)) k_X4_textOf u_ml_RX4_97 hK hN hP (by omega) hC.1 rfl rfl rfl rfl (Nat.le_of_ble_eq_true rfl) ⟨Nat.le_of_ble_eq_true rfl, Nat.le_of_ble_eq_true rfl⟩ ⟨Nat.le_of_ble_eq_true rfl, Nat.le_of_ble_eq_true rfl⟩ dX4_textSize_2 ?_
      refine lv_astore_n (lv' := [(2, .ref (ad (21 + 3 * t1))), (0, .ref (ad 0)), (1, .int (xI (t1 : Int)))]) hx hb dX4_textSize_5 rfl hl (by decide) rfl (fun ls hl => ?_)
      refine lv_aload_n hx hb dX4_textSize_6 rfl (lv_at hl 0 rfl) ?_
      refine lv_ifnonnull (tgt := 14) hx hb dX4_textSize_7 (by decide) ?_
      refine lv_aload_n hx hb dX4_textSize_14 rfl (lv_at hl 0 rfl) ?_
      refine x_getn (T := TX3) (N := 2) hx hb hts uX3 hown hN hK hP (i := 21 + 3 * t1) (by omega) hT_t1.1 rfl 1 (by decide) (by simp only [xNest, List.mem_cons]; exact Or.inr (Or.inr (Or.inr (Or.inr (Or.inr (Or.inr (Or.inl rfl))))))) rfl dX4_textSize_15 ?_
      refine x_if_eq (tgt := 25) hx hb dX4_textSize_18 (by decide) (by omega) (fun c_18 => absurd c_18 (by omega)) (fun c_18 => ?_)
      refine x_iconst hx hb dX4_textSize_21 ?_
      refine lv_goto (tgt := 32) hx hb dX4_textSize_22 (by decide) ?_
      exact xr_i hx hb hrt hlocks ((by unfold am_textSize; simp only [Int.toNat_natCast]; rw [sp_if_f (by omega), sp_if_t (by simp [hS_t1])])) dX4_textSize_32
    · have hT_t1 : XT cA ad en (21 + 3 * t1) (some r_t1) := by have q : XT cA ad en (21 + 3 * t1) (S.2.1 t1) := hC.rt h_t1; rw [hS_t1] at q; exact q
      have hr_t1 := hT_t1.2
      have hm_t1 := hr_t1.2.2.1
      refine lv_aload_n hx hb dX4_textSize_0 rfl (lv_at hl 0 rfl) ?_
      refine lv_iload_n hx hb dX4_textSize_1 rfl (lv_at hl 1 rfl) ?_
      refine xv_q (i := 0) (As := [.int (xI (t1 : Int))]) (rest := []) ⟨hx, hb, hml, hown, hts⟩ hl.1 (c_X4_textOf_in l D cA n ad en (by omega) hC t1 (by omega)) k_X4_textOf u_ml_RX4_97 hK hN hP (by omega) hC.1 rfl rfl rfl rfl (Nat.le_of_ble_eq_true rfl) ⟨Nat.le_of_ble_eq_true rfl, Nat.le_of_ble_eq_true rfl⟩ ⟨Nat.le_of_ble_eq_true rfl, Nat.le_of_ble_eq_true rfl⟩ dX4_textSize_2 ?_
      refine lv_astore_n (lv' := [(2, .ref (ad (21 + 3 * t1))), (0, .ref (ad 0)), (1, .int (xI (t1 : Int)))]) hx hb dX4_textSize_5 rfl hl (by decide) rfl (fun ls hl => ?_)
      refine lv_aload_n hx hb dX4_textSize_6 rfl (lv_at hl 0 rfl) ?_
      refine lv_ifnonnull (tgt := 14) hx hb dX4_textSize_7 (by decide) ?_
      refine lv_aload_n hx hb dX4_textSize_14 rfl (lv_at hl 0 rfl) ?_
      refine x_getn (T := TX3) (N := 2) hx hb hts uX3 hown hN hK hP (i := 21 + 3 * t1) (by omega) hT_t1.1 rfl 1 (by decide) (by simp only [xNest, List.mem_cons]; exact Or.inr (Or.inr (Or.inr (Or.inr (Or.inr (Or.inr (Or.inl rfl))))))) rfl dX4_textSize_15 ?_
      refine x_if_eq (tgt := 25) hx hb dX4_textSize_18 (by decide) (by omega) (fun c_18 => ?_) (fun c_18 => absurd c_18 (by omega))
      refine lv_aload_n hx hb dX4_textSize_25 rfl (lv_at hl 0 rfl) ?_
      refine x_getn (T := TX3) (N := 2) hx hb hts uX3 hown hN hK hP (i := 21 + 3 * t1) (by omega) hT_t1.1 rfl 0 (by decide) (by simp only [xNest, List.mem_cons]; exact Or.inr (Or.inr (Or.inr (Or.inr (Or.inr (Or.inl rfl)))))) rfl dX4_textSize_26 ?_
      refine x_getn (T := TX2) (N := 2) hx hb hts uX2 hown hN hK hP (i := 21 + 3 * t1 + 1) (by omega) hr_t1.1 rfl 1 (by decide) (by simp only [xNest, List.mem_cons]; exact Or.inr (Or.inl rfl)) rfl dX4_textSize_29 ?_
      exact xr_i hx hb hrt hlocks ((by unfold am_textSize; simp only [Int.toNat_natCast]; simp only [sp_get_s hS_t1]; rw [sp_if_f (by omega), sp_if_f (by simp [hS_t1])])) dX4_textSize_32
  · refine lv_aload_n hx hb dX4_textSize_0 rfl (lv_at hl 0 rfl) ?_
    refine lv_iload_n hx hb dX4_textSize_1 rfl (lv_at hl 1 rfl) ?_
    refine xv_q (i := 0) (As := [.int (xI z1)]) (rest := []) ⟨hx, hb, hml, hown, hts⟩ hl.1 (c_X4_textOf_out l D cA n ad en (by omega) hC z1 (by omega) (by omega)) k_X4_textOf u_ml_RX4_97 hK hN hP (by omega) hC.1 rfl rfl rfl rfl (Nat.le_of_ble_eq_true rfl) ⟨Nat.le_of_ble_eq_true rfl, Nat.le_of_ble_eq_true rfl⟩ ⟨Nat.le_of_ble_eq_true rfl, Nat.le_of_ble_eq_true rfl⟩ dX4_textSize_2 ?_
    refine lv_astore_nN (lv' := [(2, .null), (0, .ref (ad 0)), (1, .int (xI z1))]) hx hb dX4_textSize_5 rfl hl (by decide) rfl (fun ls hl => ?_)
    refine lv_aload_nN hx hb dX4_textSize_6 rfl (lv_at hl 0 rfl) ?_
    refine lv_ifnonnullN hx hb dX4_textSize_7 ?_
    refine x_sipush hx hb dX4_textSize_10 (by decide +kernel) ?_
    exact xr_i hx hb hrt hlocks ((by unfold am_textSize; rw [sp_if_t (by omega)])) dX4_textSize_13

set_option maxRecDepth 20000 in
theorem c_X4_signAt (l : Launch) (D : va_G) (cA : Nat → ClassId) (n : Nat) (ad : Nat → Nat) (en : Nat → va_E) (hn : 53 ≤ n) {S : xSt} (hC : CW cA ad en S) (z1 : Int) (hz1 : -2147483648 ≤ z1 ∧ z1 ≤ 2147483647) (z2 : Int) (hz2 : -2147483648 ≤ z2 ∧ z2 ≤ 2147483647) : Met l yX4_signAt (Cond.code yX4_signAt cX4_signAt 4 (some .int) :: xU) (xrm 2 42) (va_Pc [.ref (ad 0), .int (xI z1), .int (xI z2)] (xB D cA n ad en)) (vp_Si (fun z => z = xI (am_signAt S z1 z2))) 0 0 (fun _ => False) := by
  refine xmet (by decide) (Nat.le_of_ble_eq_true rfl) (fun p e s mm args below meth c ls hx hb hrt hml hown hts hlocks hname hB hl => ?_)
  obtain ⟨hP, hK, hN⟩ := hB
  have hl : lv_has ls 4 [(0, .ref (ad 0)), (1, .int (xI z1)), (2, .int (xI z2))] := hl
  rcases Classical.em (0 ≤ z1 ∧ z1 < 8) with hx_z1 | hx_z1
  · obtain ⟨t1, rfl⟩ : ∃ q : Nat, z1 = (q : Int) := ⟨z1.toNat, by omega⟩
    have h_t1 : t1 < 8 := by omega
    rcases hS_t1 : S.2.1 t1 with _ | r_t1
    · have hT_t1 : XT cA ad en (21 + 3 * t1) none := by have q : XT cA ad en (21 + 3 * t1) (S.2.1 t1) := hC.rt h_t1; rw [hS_t1] at q; exact q
      refine lv_aload_n hx hb dX4_signAt_0 rfl (lv_at hl 0 rfl) ?_
      refine lv_iload_n hx hb dX4_signAt_1 rfl (lv_at hl 1 rfl) ?_
      refine xv_q (i := 0) (As := [.int (xI (t1 : Int))]) (rest := []) ⟨hx, hb, hml, hown, hts⟩ hl.1 (c_X4_textOf_in l D cA n ad en (by omega) hC t1 (by omega)) k_X4_textOf u_ml_RX4_97 hK hN hP (by omega) hC.1 rfl rfl rfl rfl (Nat.le_of_ble_eq_true rfl) ⟨Nat.le_of_ble_eq_true rfl, Nat.le_of_ble_eq_true rfl⟩ ⟨Nat.le_of_ble_eq_true rfl, Nat.le_of_ble_eq_true rfl⟩ dX4_signAt_2 ?_
      refine lv_astore_n (lv' := [(3, .ref (ad (21 + 3 * t1))), (0, .ref (ad 0)), (1, .int (xI (t1 : Int))), (2, .int (xI z2))]) hx hb dX4_signAt_5 rfl hl (by decide) rfl (fun ls hl => ?_)
      refine lv_aload_n hx hb dX4_signAt_6 rfl (lv_at hl 0 rfl) ?_
      refine lv_ifnonnull (tgt := 14) hx hb dX4_signAt_7 (by decide) ?_
      refine lv_aload_n hx hb dX4_signAt_14 rfl (lv_at hl 0 rfl) ?_
      refine x_getn (T := TX3) (N := 2) hx hb hts uX3 hown hN hK hP (i := 21 + 3 * t1) (by omega) hT_t1.1 rfl 1 (by decide) (by simp only [xNest, List.mem_cons]; exact Or.inr (Or.inr (Or.inr (Or.inr (Or.inr (Or.inr (Or.inl rfl))))))) rfl dX4_signAt_15 ?_
      refine x_if_eq (tgt := 25) hx hb dX4_signAt_18 (by decide) (by omega) (fun c_18 => absurd c_18 (by omega)) (fun c_18 => ?_)
      refine x_sipush hx hb dX4_signAt_21 (by decide +kernel) ?_
      exact xr_i hx hb hrt hlocks ((by unfold am_signAt; simp only [Int.toNat_natCast]; rw [sp_if_f (by omega), sp_if_t (by simp [hS_t1])])) dX4_signAt_24
    · have hT_t1 : XT cA ad en (21 + 3 * t1) (some r_t1) := by have q : XT cA ad en (21 + 3 * t1) (S.2.1 t1) := hC.rt h_t1; rw [hS_t1] at q; exact q
      have hr_t1 := hT_t1.2
      have hm_t1 := hr_t1.2.2.1
      refine lv_aload_n hx hb dX4_signAt_0 rfl (lv_at hl 0 rfl) ?_
      refine lv_iload_n hx hb dX4_signAt_1 rfl (lv_at hl 1 rfl) ?_
      refine xv_q (i := 0) (As := [.int (xI (t1 : Int))]) (rest := []) ⟨hx, hb, hml, hown, hts⟩ hl.1 (c_X4_textOf_in l D cA n ad en (by omega) hC t1 (by omega)) k_X4_textOf u_ml_RX4_97 hK hN hP (by omega) hC.1 rfl rfl rfl rfl (Nat.le_of_ble_eq_true rfl) ⟨Nat.le_of_ble_eq_true rfl, Nat.le_of_ble_eq_true rfl⟩ ⟨Nat.le_of_ble_eq_true rfl, Nat.le_of_ble_eq_true rfl⟩ dX4_signAt_2 ?_
      refine lv_astore_n (lv' := [(3, .ref (ad (21 + 3 * t1))), (0, .ref (ad 0)), (1, .int (xI (t1 : Int))), (2, .int (xI z2))]) hx hb dX4_signAt_5 rfl hl (by decide) rfl (fun ls hl => ?_)
      refine lv_aload_n hx hb dX4_signAt_6 rfl (lv_at hl 0 rfl) ?_
      refine lv_ifnonnull (tgt := 14) hx hb dX4_signAt_7 (by decide) ?_
      refine lv_aload_n hx hb dX4_signAt_14 rfl (lv_at hl 0 rfl) ?_
      refine x_getn (T := TX3) (N := 2) hx hb hts uX3 hown hN hK hP (i := 21 + 3 * t1) (by omega) hT_t1.1 rfl 1 (by decide) (by simp only [xNest, List.mem_cons]; exact Or.inr (Or.inr (Or.inr (Or.inr (Or.inr (Or.inr (Or.inl rfl))))))) rfl dX4_signAt_15 ?_
      refine x_if_eq (tgt := 25) hx hb dX4_signAt_18 (by decide) (by omega) (fun c_18 => ?_) (fun c_18 => absurd c_18 (by omega))
      refine lv_aload_n hx hb dX4_signAt_25 rfl (lv_at hl 0 rfl) ?_
      refine x_getn (T := TX3) (N := 2) hx hb hts uX3 hown hN hK hP (i := 21 + 3 * t1) (by omega) hT_t1.1 rfl 0 (by decide) (by simp only [xNest, List.mem_cons]; exact Or.inr (Or.inr (Or.inr (Or.inr (Or.inr (Or.inl rfl)))))) rfl dX4_signAt_26 ?_
      refine lv_iload_n hx hb dX4_signAt_29 rfl (lv_at hl 3 rfl) ?_
      refine xv_i (i := 21 + 3 * t1 + 1) (As := [.int (xI z2)]) (rest := []) ⟨hx, hb, hml, hown, hts⟩ hl.1 (c_X2_holds l D cA n ad en (by omega) hr_t1 z2 (by omega)) k_X2_holds u_ml_RX4_94 hK hN hP (by omega) hr_t1.1 rfl rfl rfl rfl (Nat.le_of_ble_eq_true rfl) ⟨Nat.le_of_ble_eq_true rfl, Nat.le_of_ble_eq_true rfl⟩ ⟨Nat.le_of_ble_eq_true rfl, Nat.le_of_ble_eq_true rfl⟩ dX4_signAt_30 ?_
      refine x_ifb_eq (tgt := 47) hx hb dX4_signAt_33 (by decide)  (fun c_33 => ?_) (fun c_33 => ?_)
      · refine x_sipush hx hb dX4_signAt_47 (by decide +kernel) ?_
        exact xr_i hx hb hrt hlocks ((by unfold am_signAt; simp only [Int.toNat_natCast]; simp only [sp_get_s hS_t1]; rw [sp_if_f (by omega), sp_if_f (by simp [hS_t1]), sp_if_t (by omega)])) dX4_signAt_50
      · refine lv_aload_n hx hb dX4_signAt_36 rfl (lv_at hl 0 rfl) ?_
        refine x_getn (T := TX3) (N := 2) hx hb hts uX3 hown hN hK hP (i := 21 + 3 * t1) (by omega) hT_t1.1 rfl 0 (by decide) (by simp only [xNest, List.mem_cons]; exact Or.inr (Or.inr (Or.inr (Or.inr (Or.inr (Or.inl rfl)))))) rfl dX4_signAt_37 ?_
        refine lv_iload_n hx hb dX4_signAt_40 rfl (lv_at hl 3 rfl) ?_
        refine xv_i (i := 21 + 3 * t1 + 1) (As := [.int (xI z2)]) (rest := []) ⟨hx, hb, hml, hown, hts⟩ hl.1 (c_X2_signThere l D cA n ad en (by omega) hr_t1 z2 (by omega)) k_X2_signThere u_ml_RX4_111 hK hN hP (by omega) hr_t1.1 rfl rfl rfl rfl (Nat.le_of_ble_eq_true rfl) ⟨Nat.le_of_ble_eq_true rfl, Nat.le_of_ble_eq_true rfl⟩ ⟨Nat.le_of_ble_eq_true rfl, Nat.le_of_ble_eq_true rfl⟩ dX4_signAt_41 ?_
        refine lv_goto (tgt := 50) hx hb dX4_signAt_44 (by decide) ?_
        exact xr_i hx hb hrt hlocks ((by unfold am_signAt; simp only [Int.toNat_natCast]; simp only [sp_get_s hS_t1]; rw [sp_if_f (by omega), sp_if_f (by simp [hS_t1]), sp_if_f (by omega)])) dX4_signAt_50
  · refine lv_aload_n hx hb dX4_signAt_0 rfl (lv_at hl 0 rfl) ?_
    refine lv_iload_n hx hb dX4_signAt_1 rfl (lv_at hl 1 rfl) ?_
    refine xv_q (i := 0) (As := [.int (xI z1)]) (rest := []) ⟨hx, hb, hml, hown, hts⟩ hl.1 (c_X4_textOf_out l D cA n ad en (by omega) hC z1 (by omega) (by omega)) k_X4_textOf u_ml_RX4_97 hK hN hP (by omega) hC.1 rfl rfl rfl rfl (Nat.le_of_ble_eq_true rfl) ⟨Nat.le_of_ble_eq_true rfl, Nat.le_of_ble_eq_true rfl⟩ ⟨Nat.le_of_ble_eq_true rfl, Nat.le_of_ble_eq_true rfl⟩ dX4_signAt_2 ?_
    refine lv_astore_nN (lv' := [(3, .null), (0, .ref (ad 0)), (1, .int (xI z1)), (2, .int (xI z2))]) hx hb dX4_signAt_5 rfl hl (by decide) rfl (fun ls hl => ?_)
    refine lv_aload_nN hx hb dX4_signAt_6 rfl (lv_at hl 0 rfl) ?_
    refine lv_ifnonnullN hx hb dX4_signAt_7 ?_
    refine x_sipush hx hb dX4_signAt_10 (by decide +kernel) ?_
    exact xr_i hx hb hrt hlocks ((by unfold am_signAt; rw [sp_if_t (by omega)])) dX4_signAt_13

set_option maxRecDepth 20000 in
theorem c_X4_firstSign (l : Launch) (D : va_G) (cA : Nat → ClassId) (n : Nat) (ad : Nat → Nat) (en : Nat → va_E) (hn : 53 ≤ n) {S : xSt} (hC : CW cA ad en S) (z1 : Int) (hz1 : -2147483648 ≤ z1 ∧ z1 ≤ 2147483647) (z2 : Int) (hz2 : -2147483648 ≤ z2 ∧ z2 ≤ 2147483647) (z3 : Int) (hz3 : -2147483648 ≤ z3 ∧ z3 ≤ 2147483647) : Met l yX4_firstSign (Cond.code yX4_firstSign cX4_firstSign 5 (some .int) :: xU) (xrm 3 65) (va_Pc [.ref (ad 0), .int (xI z1), .int (xI z2), .int (xI z3)] (xB D cA n ad en)) (vp_Si (fun z => z = xI (am_firstSign S z1 z2 z3))) 0 0 (fun _ => False) := by
  refine xmet (by decide) (Nat.le_of_ble_eq_true rfl) (fun p e s mm args below meth c ls hx hb hrt hml hown hts hlocks hname hB hl => ?_)
  obtain ⟨hP, hK, hN⟩ := hB
  have hl : lv_has ls 5 [(0, .ref (ad 0)), (1, .int (xI z1)), (2, .int (xI z2)), (3, .int (xI z3))] := hl
  rcases Classical.em (0 ≤ z1 ∧ z1 < 8) with hx_z1 | hx_z1
  · obtain ⟨t1, rfl⟩ : ∃ q : Nat, z1 = (q : Int) := ⟨z1.toNat, by omega⟩
    have h_t1 : t1 < 8 := by omega
    rcases hS_t1 : S.2.1 t1 with _ | r_t1
    · have hT_t1 : XT cA ad en (21 + 3 * t1) none := by have q : XT cA ad en (21 + 3 * t1) (S.2.1 t1) := hC.rt h_t1; rw [hS_t1] at q; exact q
      refine lv_aload_n hx hb dX4_firstSign_0 rfl (lv_at hl 0 rfl) ?_
      refine lv_iload_n hx hb dX4_firstSign_1 rfl (lv_at hl 1 rfl) ?_
      refine xv_q (i := 0) (As := [.int (xI (t1 : Int))]) (rest := []) ⟨hx, hb, hml, hown, hts⟩ hl.1 (c_X4_textOf_in l D cA n ad en (by omega) hC t1 (by omega)) k_X4_textOf u_ml_RX4_97 hK hN hP (by omega) hC.1 rfl rfl rfl rfl (Nat.le_of_ble_eq_true rfl) ⟨Nat.le_of_ble_eq_true rfl, Nat.le_of_ble_eq_true rfl⟩ ⟨Nat.le_of_ble_eq_true rfl, Nat.le_of_ble_eq_true rfl⟩ dX4_firstSign_2 ?_
      refine lv_astore (lv' := [(4, .ref (ad (21 + 3 * t1))), (0, .ref (ad 0)), (1, .int (xI (t1 : Int))), (2, .int (xI z2)), (3, .int (xI z3))]) hx hb dX4_firstSign_5 hl (by decide) rfl (fun ls hl => ?_)
      refine lv_aload hx hb dX4_firstSign_7 (lv_at hl 0 rfl) ?_
      refine lv_ifnonnull (tgt := 16) hx hb dX4_firstSign_9 (by decide) ?_
      refine lv_iload_n hx hb dX4_firstSign_16 rfl (lv_at hl 3 rfl) ?_
      refine xt_i (As := [.int (xI z2)]) (rest := []) ⟨hx, hb, hml, hown, hts⟩ hl.1 (c_X4_isSign l z2 (by omega)) k_X4_isSign u_ml_RX4_56 rfl rfl (Nat.le_of_ble_eq_true rfl) ⟨Nat.le_of_ble_eq_true rfl, Nat.le_of_ble_eq_true rfl⟩ ⟨Nat.le_of_ble_eq_true rfl, Nat.le_of_ble_eq_true rfl⟩ dX4_firstSign_17 ?_
      refine x_ifb_ne (tgt := 27) hx hb dX4_firstSign_20 (by decide)  (fun c_20 => ?_) (fun c_20 => ?_)
      · refine lv_aload hx hb dX4_firstSign_27 (lv_at hl 0 rfl) ?_
        refine x_getn (T := TX3) (N := 2) hx hb hts uX3 hown hN hK hP (i := 21 + 3 * t1) (by omega) hT_t1.1 rfl 1 (by decide) (by simp only [xNest, List.mem_cons]; exact Or.inr (Or.inr (Or.inr (Or.inr (Or.inr (Or.inr (Or.inl rfl))))))) rfl dX4_firstSign_29 ?_
        refine x_if_eq (tgt := 41) hx hb dX4_firstSign_32 (by decide) (by omega) (fun c_32 => absurd c_32 (by omega)) (fun c_32 => ?_)
        refine x_sipush hx hb dX4_firstSign_35 (by decide +kernel) ?_
        refine lv_goto (tgt := 51) hx hb dX4_firstSign_38 (by decide) ?_
        exact xr_i hx hb hrt hlocks ((by unfold am_firstSign; simp only [Int.toNat_natCast]; rw [sp_if_f (by omega), sp_if_f (by omega), sp_if_t (by simp [hS_t1])])) dX4_firstSign_51
      · refine x_sipush hx hb dX4_firstSign_23 (by decide +kernel) ?_
        exact xr_i hx hb hrt hlocks ((by unfold am_firstSign; simp only [Int.toNat_natCast]; rw [sp_if_f (by omega), sp_if_t (by omega)])) dX4_firstSign_26
    · have hT_t1 : XT cA ad en (21 + 3 * t1) (some r_t1) := by have q : XT cA ad en (21 + 3 * t1) (S.2.1 t1) := hC.rt h_t1; rw [hS_t1] at q; exact q
      have hr_t1 := hT_t1.2
      have hm_t1 := hr_t1.2.2.1
      refine lv_aload_n hx hb dX4_firstSign_0 rfl (lv_at hl 0 rfl) ?_
      refine lv_iload_n hx hb dX4_firstSign_1 rfl (lv_at hl 1 rfl) ?_
      refine xv_q (i := 0) (As := [.int (xI (t1 : Int))]) (rest := []) ⟨hx, hb, hml, hown, hts⟩ hl.1 (c_X4_textOf_in l D cA n ad en (by omega) hC t1 (by omega)) k_X4_textOf u_ml_RX4_97 hK hN hP (by omega) hC.1 rfl rfl rfl rfl (Nat.le_of_ble_eq_true rfl) ⟨Nat.le_of_ble_eq_true rfl, Nat.le_of_ble_eq_true rfl⟩ ⟨Nat.le_of_ble_eq_true rfl, Nat.le_of_ble_eq_true rfl⟩ dX4_firstSign_2 ?_
      refine lv_astore (lv' := [(4, .ref (ad (21 + 3 * t1))), (0, .ref (ad 0)), (1, .int (xI (t1 : Int))), (2, .int (xI z2)), (3, .int (xI z3))]) hx hb dX4_firstSign_5 hl (by decide) rfl (fun ls hl => ?_)
      refine lv_aload hx hb dX4_firstSign_7 (lv_at hl 0 rfl) ?_
      refine lv_ifnonnull (tgt := 16) hx hb dX4_firstSign_9 (by decide) ?_
      refine lv_iload_n hx hb dX4_firstSign_16 rfl (lv_at hl 3 rfl) ?_
      refine xt_i (As := [.int (xI z2)]) (rest := []) ⟨hx, hb, hml, hown, hts⟩ hl.1 (c_X4_isSign l z2 (by omega)) k_X4_isSign u_ml_RX4_56 rfl rfl (Nat.le_of_ble_eq_true rfl) ⟨Nat.le_of_ble_eq_true rfl, Nat.le_of_ble_eq_true rfl⟩ ⟨Nat.le_of_ble_eq_true rfl, Nat.le_of_ble_eq_true rfl⟩ dX4_firstSign_17 ?_
      refine x_ifb_ne (tgt := 27) hx hb dX4_firstSign_20 (by decide)  (fun c_20 => ?_) (fun c_20 => ?_)
      · refine lv_aload hx hb dX4_firstSign_27 (lv_at hl 0 rfl) ?_
        refine x_getn (T := TX3) (N := 2) hx hb hts uX3 hown hN hK hP (i := 21 + 3 * t1) (by omega) hT_t1.1 rfl 1 (by decide) (by simp only [xNest, List.mem_cons]; exact Or.inr (Or.inr (Or.inr (Or.inr (Or.inr (Or.inr (Or.inl rfl))))))) rfl dX4_firstSign_29 ?_
        refine x_if_eq (tgt := 41) hx hb dX4_firstSign_32 (by decide) (by omega) (fun c_32 => ?_) (fun c_32 => absurd c_32 (by omega))
        refine lv_aload hx hb dX4_firstSign_41 (lv_at hl 0 rfl) ?_
        refine x_getn (T := TX3) (N := 2) hx hb hts uX3 hown hN hK hP (i := 21 + 3 * t1) (by omega) hT_t1.1 rfl 0 (by decide) (by simp only [xNest, List.mem_cons]; exact Or.inr (Or.inr (Or.inr (Or.inr (Or.inr (Or.inl rfl)))))) rfl dX4_firstSign_43 ?_
        refine lv_iload_n hx hb dX4_firstSign_46 rfl (lv_at hl 3 rfl) ?_
        refine lv_iload_n hx hb dX4_firstSign_47 rfl (lv_at hl 4 rfl) ?_
        refine xv_i (i := 21 + 3 * t1 + 1) (As := [.int (xI z2), .int (xI z3)]) (rest := []) ⟨hx, hb, hml, hown, hts⟩ hl.1 (c_X2_signForward l D cA n ad en (by omega) hr_t1  z2 z3 (by omega) (by omega)) k_X2_signForward u_ml_RX4_143 hK hN hP (by omega) hr_t1.1 rfl rfl rfl rfl (Nat.le_of_ble_eq_true rfl) ⟨Nat.le_of_ble_eq_true rfl, Nat.le_of_ble_eq_true rfl⟩ ⟨Nat.le_of_ble_eq_true rfl, Nat.le_of_ble_eq_true rfl⟩ dX4_firstSign_48 ?_
        exact xr_i hx hb hrt hlocks ((by unfold am_firstSign; simp only [Int.toNat_natCast]; simp only [sp_get_s hS_t1]; rw [sp_if_f (by omega), sp_if_f (by omega), sp_if_f (by simp [hS_t1])])) dX4_firstSign_51
      · refine x_sipush hx hb dX4_firstSign_23 (by decide +kernel) ?_
        exact xr_i hx hb hrt hlocks ((by unfold am_firstSign; simp only [Int.toNat_natCast]; simp only [sp_get_s hS_t1]; rw [sp_if_f (by omega), sp_if_t (by omega)])) dX4_firstSign_26
  · refine lv_aload_n hx hb dX4_firstSign_0 rfl (lv_at hl 0 rfl) ?_
    refine lv_iload_n hx hb dX4_firstSign_1 rfl (lv_at hl 1 rfl) ?_
    refine xv_q (i := 0) (As := [.int (xI z1)]) (rest := []) ⟨hx, hb, hml, hown, hts⟩ hl.1 (c_X4_textOf_out l D cA n ad en (by omega) hC z1 (by omega) (by omega)) k_X4_textOf u_ml_RX4_97 hK hN hP (by omega) hC.1 rfl rfl rfl rfl (Nat.le_of_ble_eq_true rfl) ⟨Nat.le_of_ble_eq_true rfl, Nat.le_of_ble_eq_true rfl⟩ ⟨Nat.le_of_ble_eq_true rfl, Nat.le_of_ble_eq_true rfl⟩ dX4_firstSign_2 ?_
    refine lv_astoreN (lv' := [(4, .null), (0, .ref (ad 0)), (1, .int (xI z1)), (2, .int (xI z2)), (3, .int (xI z3))]) hx hb dX4_firstSign_5 hl (by decide) rfl (fun ls hl => ?_)
    refine lv_aloadN hx hb dX4_firstSign_7 (lv_at hl 0 rfl) ?_
    refine lv_ifnonnullN hx hb dX4_firstSign_9 ?_
    refine x_sipush hx hb dX4_firstSign_12 (by decide +kernel) ?_
    exact xr_i hx hb hrt hlocks ((by unfold am_firstSign; rw [sp_if_t (by omega)])) dX4_firstSign_15

set_option maxRecDepth 20000 in
theorem c_X4_lastSign (l : Launch) (D : va_G) (cA : Nat → ClassId) (n : Nat) (ad : Nat → Nat) (en : Nat → va_E) (hn : 53 ≤ n) {S : xSt} (hC : CW cA ad en S) (z1 : Int) (hz1 : -2147483648 ≤ z1 ∧ z1 ≤ 2147483647) (z2 : Int) (hz2 : -2147483648 ≤ z2 ∧ z2 ≤ 2147483647) (z3 : Int) (hz3 : -2147483648 ≤ z3 ∧ z3 ≤ 2147483647) : Met l yX4_lastSign (Cond.code yX4_lastSign cX4_lastSign 5 (some .int) :: xU) (xrm 3 65) (va_Pc [.ref (ad 0), .int (xI z1), .int (xI z2), .int (xI z3)] (xB D cA n ad en)) (vp_Si (fun z => z = xI (am_lastSign S z1 z2 z3))) 0 0 (fun _ => False) := by
  refine xmet (by decide) (Nat.le_of_ble_eq_true rfl) (fun p e s mm args below meth c ls hx hb hrt hml hown hts hlocks hname hB hl => ?_)
  obtain ⟨hP, hK, hN⟩ := hB
  have hl : lv_has ls 5 [(0, .ref (ad 0)), (1, .int (xI z1)), (2, .int (xI z2)), (3, .int (xI z3))] := hl
  rcases Classical.em (0 ≤ z1 ∧ z1 < 8) with hx_z1 | hx_z1
  · obtain ⟨t1, rfl⟩ : ∃ q : Nat, z1 = (q : Int) := ⟨z1.toNat, by omega⟩
    have h_t1 : t1 < 8 := by omega
    rcases hS_t1 : S.2.1 t1 with _ | r_t1
    · have hT_t1 : XT cA ad en (21 + 3 * t1) none := by have q : XT cA ad en (21 + 3 * t1) (S.2.1 t1) := hC.rt h_t1; rw [hS_t1] at q; exact q
      refine lv_aload_n hx hb dX4_lastSign_0 rfl (lv_at hl 0 rfl) ?_
      refine lv_iload_n hx hb dX4_lastSign_1 rfl (lv_at hl 1 rfl) ?_
      refine xv_q (i := 0) (As := [.int (xI (t1 : Int))]) (rest := []) ⟨hx, hb, hml, hown, hts⟩ hl.1 (c_X4_textOf_in l D cA n ad en (by omega) hC t1 (by omega)) k_X4_textOf u_ml_RX4_97 hK hN hP (by omega) hC.1 rfl rfl rfl rfl (Nat.le_of_ble_eq_true rfl) ⟨Nat.le_of_ble_eq_true rfl, Nat.le_of_ble_eq_true rfl⟩ ⟨Nat.le_of_ble_eq_true rfl, Nat.le_of_ble_eq_true rfl⟩ dX4_lastSign_2 ?_
      refine lv_astore (lv' := [(4, .ref (ad (21 + 3 * t1))), (0, .ref (ad 0)), (1, .int (xI (t1 : Int))), (2, .int (xI z2)), (3, .int (xI z3))]) hx hb dX4_lastSign_5 hl (by decide) rfl (fun ls hl => ?_)
      refine lv_aload hx hb dX4_lastSign_7 (lv_at hl 0 rfl) ?_
      refine lv_ifnonnull (tgt := 16) hx hb dX4_lastSign_9 (by decide) ?_
      refine lv_iload_n hx hb dX4_lastSign_16 rfl (lv_at hl 3 rfl) ?_
      refine xt_i (As := [.int (xI z2)]) (rest := []) ⟨hx, hb, hml, hown, hts⟩ hl.1 (c_X4_isSign l z2 (by omega)) k_X4_isSign u_ml_RX4_56 rfl rfl (Nat.le_of_ble_eq_true rfl) ⟨Nat.le_of_ble_eq_true rfl, Nat.le_of_ble_eq_true rfl⟩ ⟨Nat.le_of_ble_eq_true rfl, Nat.le_of_ble_eq_true rfl⟩ dX4_lastSign_17 ?_
      refine x_ifb_ne (tgt := 27) hx hb dX4_lastSign_20 (by decide)  (fun c_20 => ?_) (fun c_20 => ?_)
      · refine lv_aload hx hb dX4_lastSign_27 (lv_at hl 0 rfl) ?_
        refine x_getn (T := TX3) (N := 2) hx hb hts uX3 hown hN hK hP (i := 21 + 3 * t1) (by omega) hT_t1.1 rfl 1 (by decide) (by simp only [xNest, List.mem_cons]; exact Or.inr (Or.inr (Or.inr (Or.inr (Or.inr (Or.inr (Or.inl rfl))))))) rfl dX4_lastSign_29 ?_
        refine x_if_eq (tgt := 41) hx hb dX4_lastSign_32 (by decide) (by omega) (fun c_32 => absurd c_32 (by omega)) (fun c_32 => ?_)
        refine x_sipush hx hb dX4_lastSign_35 (by decide +kernel) ?_
        refine lv_goto (tgt := 51) hx hb dX4_lastSign_38 (by decide) ?_
        exact xr_i hx hb hrt hlocks ((by unfold am_lastSign; simp only [Int.toNat_natCast]; rw [sp_if_f (by omega), sp_if_f (by omega), sp_if_t (by simp [hS_t1])])) dX4_lastSign_51
      · refine x_sipush hx hb dX4_lastSign_23 (by decide +kernel) ?_
        exact xr_i hx hb hrt hlocks ((by unfold am_lastSign; simp only [Int.toNat_natCast]; rw [sp_if_f (by omega), sp_if_t (by omega)])) dX4_lastSign_26
    · have hT_t1 : XT cA ad en (21 + 3 * t1) (some r_t1) := by have q : XT cA ad en (21 + 3 * t1) (S.2.1 t1) := hC.rt h_t1; rw [hS_t1] at q; exact q
      have hr_t1 := hT_t1.2
      have hm_t1 := hr_t1.2.2.1
      refine lv_aload_n hx hb dX4_lastSign_0 rfl (lv_at hl 0 rfl) ?_
      refine lv_iload_n hx hb dX4_lastSign_1 rfl (lv_at hl 1 rfl) ?_
      refine xv_q (i := 0) (As := [.int (xI (t1 : Int))]) (rest := []) ⟨hx, hb, hml, hown, hts⟩ hl.1 (c_X4_textOf_in l D cA n ad en (by omega) hC t1 (by omega)) k_X4_textOf u_ml_RX4_97 hK hN hP (by omega) hC.1 rfl rfl rfl rfl (Nat.le_of_ble_eq_true rfl) ⟨Nat.le_of_ble_eq_true rfl, Nat.le_of_ble_eq_true rfl⟩ ⟨Nat.le_of_ble_eq_true rfl, Nat.le_of_ble_eq_true rfl⟩ dX4_lastSign_2 ?_
      refine lv_astore (lv' := [(4, .ref (ad (21 + 3 * t1))), (0, .ref (ad 0)), (1, .int (xI (t1 : Int))), (2, .int (xI z2)), (3, .int (xI z3))]) hx hb dX4_lastSign_5 hl (by decide) rfl (fun ls hl => ?_)
      refine lv_aload hx hb dX4_lastSign_7 (lv_at hl 0 rfl) ?_
      refine lv_ifnonnull (tgt := 16) hx hb dX4_lastSign_9 (by decide) ?_
      refine lv_iload_n hx hb dX4_lastSign_16 rfl (lv_at hl 3 rfl) ?_
      refine xt_i (As := [.int (xI z2)]) (rest := []) ⟨hx, hb, hml, hown, hts⟩ hl.1 (c_X4_isSign l z2 (by omega)) k_X4_isSign u_ml_RX4_56 rfl rfl (Nat.le_of_ble_eq_true rfl) ⟨Nat.le_of_ble_eq_true rfl, Nat.le_of_ble_eq_true rfl⟩ ⟨Nat.le_of_ble_eq_true rfl, Nat.le_of_ble_eq_true rfl⟩ dX4_lastSign_17 ?_
      refine x_ifb_ne (tgt := 27) hx hb dX4_lastSign_20 (by decide)  (fun c_20 => ?_) (fun c_20 => ?_)
      · refine lv_aload hx hb dX4_lastSign_27 (lv_at hl 0 rfl) ?_
        refine x_getn (T := TX3) (N := 2) hx hb hts uX3 hown hN hK hP (i := 21 + 3 * t1) (by omega) hT_t1.1 rfl 1 (by decide) (by simp only [xNest, List.mem_cons]; exact Or.inr (Or.inr (Or.inr (Or.inr (Or.inr (Or.inr (Or.inl rfl))))))) rfl dX4_lastSign_29 ?_
        refine x_if_eq (tgt := 41) hx hb dX4_lastSign_32 (by decide) (by omega) (fun c_32 => ?_) (fun c_32 => absurd c_32 (by omega))
        refine lv_aload hx hb dX4_lastSign_41 (lv_at hl 0 rfl) ?_
        refine x_getn (T := TX3) (N := 2) hx hb hts uX3 hown hN hK hP (i := 21 + 3 * t1) (by omega) hT_t1.1 rfl 0 (by decide) (by simp only [xNest, List.mem_cons]; exact Or.inr (Or.inr (Or.inr (Or.inr (Or.inr (Or.inl rfl)))))) rfl dX4_lastSign_43 ?_
        refine lv_iload_n hx hb dX4_lastSign_46 rfl (lv_at hl 3 rfl) ?_
        refine lv_iload_n hx hb dX4_lastSign_47 rfl (lv_at hl 4 rfl) ?_
        refine xv_i (i := 21 + 3 * t1 + 1) (As := [.int (xI z2), .int (xI z3)]) (rest := []) ⟨hx, hb, hml, hown, hts⟩ hl.1 (c_X2_signBackward l D cA n ad en (by omega) hr_t1  z2 z3 (by omega) (by omega)) k_X2_signBackward u_ml_RX4_146 hK hN hP (by omega) hr_t1.1 rfl rfl rfl rfl (Nat.le_of_ble_eq_true rfl) ⟨Nat.le_of_ble_eq_true rfl, Nat.le_of_ble_eq_true rfl⟩ ⟨Nat.le_of_ble_eq_true rfl, Nat.le_of_ble_eq_true rfl⟩ dX4_lastSign_48 ?_
        exact xr_i hx hb hrt hlocks ((by unfold am_lastSign; simp only [Int.toNat_natCast]; simp only [sp_get_s hS_t1]; rw [sp_if_f (by omega), sp_if_f (by omega), sp_if_f (by simp [hS_t1])])) dX4_lastSign_51
      · refine x_sipush hx hb dX4_lastSign_23 (by decide +kernel) ?_
        exact xr_i hx hb hrt hlocks ((by unfold am_lastSign; simp only [Int.toNat_natCast]; simp only [sp_get_s hS_t1]; rw [sp_if_f (by omega), sp_if_t (by omega)])) dX4_lastSign_26
  · refine lv_aload_n hx hb dX4_lastSign_0 rfl (lv_at hl 0 rfl) ?_
    refine lv_iload_n hx hb dX4_lastSign_1 rfl (lv_at hl 1 rfl) ?_
    refine xv_q (i := 0) (As := [.int (xI z1)]) (rest := []) ⟨hx, hb, hml, hown, hts⟩ hl.1 (c_X4_textOf_out l D cA n ad en (by omega) hC z1 (by omega) (by omega)) k_X4_textOf u_ml_RX4_97 hK hN hP (by omega) hC.1 rfl rfl rfl rfl (Nat.le_of_ble_eq_true rfl) ⟨Nat.le_of_ble_eq_true rfl, Nat.le_of_ble_eq_true rfl⟩ ⟨Nat.le_of_ble_eq_true rfl, Nat.le_of_ble_eq_true rfl⟩ dX4_lastSign_2 ?_
    refine lv_astoreN (lv' := [(4, .null), (0, .ref (ad 0)), (1, .int (xI z1)), (2, .int (xI z2)), (3, .int (xI z3))]) hx hb dX4_lastSign_5 hl (by decide) rfl (fun ls hl => ?_)
    refine lv_aloadN hx hb dX4_lastSign_7 (lv_at hl 0 rfl) ?_
    refine lv_ifnonnullN hx hb dX4_lastSign_9 ?_
    refine x_sipush hx hb dX4_lastSign_12 (by decide +kernel) ?_
    exact xr_i hx hb hrt hlocks ((by unfold am_lastSign; rw [sp_if_t (by omega)])) dX4_lastSign_15

set_option maxRecDepth 20000 in
theorem c_X4_firstText (l : Launch) (D : va_G) (cA : Nat → ClassId) (n : Nat) (ad : Nat → Nat) (en : Nat → va_E) (hn : 53 ≤ n) {S : xSt} (hC : CW cA ad en S) (z1 : Int) (hz1 : -2147483648 ≤ z1 ∧ z1 ≤ 2147483647) (z2 : Int) (hz2 : -2147483648 ≤ z2 ∧ z2 ≤ 2147483647) (z3 : Int) (hz3 : -2147483648 ≤ z3 ∧ z3 ≤ 2147483647) : Met l yX4_firstText (Cond.code yX4_firstText cX4_firstText 6 (some .int) :: xU) (xrm 5 112) (va_Pc [.ref (ad 0), .int (xI z1), .int (xI z2), .int (xI z3)] (xB D cA n ad en)) (vp_Si (fun z => z = xI (am_firstText S z1 z2 z3))) 0 0 (fun _ => False) := by
  refine xmet (by decide) (Nat.le_of_ble_eq_true rfl) (fun p e s mm args below meth c ls hx hb hrt hml hown hts hlocks hname hB hl => ?_)
  obtain ⟨hP, hK, hN⟩ := hB
  have hl : lv_has ls 6 [(0, .ref (ad 0)), (1, .int (xI z1)), (2, .int (xI z2)), (3, .int (xI z3))] := hl
  rcases Classical.em (0 ≤ z1 ∧ z1 < 8) with hx_z1 | hx_z1
  · obtain ⟨t1, rfl⟩ : ∃ q : Nat, z1 = (q : Int) := ⟨z1.toNat, by omega⟩
    have h_t1 : t1 < 8 := by omega
    rcases hS_t1 : S.2.1 t1 with _ | r_t1
    · rcases Classical.em (0 ≤ z2 ∧ z2 < 8) with hx_z2 | hx_z2
      · obtain ⟨t2, rfl⟩ : ∃ q : Nat, z2 = (q : Int) := ⟨z2.toNat, by omega⟩
        have h_t2 : t2 < 8 := by omega
        rcases hS_t2 : S.2.1 t2 with _ | r_t2
        · have hT_t1 : XT cA ad en (21 + 3 * t1) none := by have q : XT cA ad en (21 + 3 * t1) (S.2.1 t1) := hC.rt h_t1; rw [hS_t1] at q; exact q
          have hT_t2 : XT cA ad en (21 + 3 * t2) none := by have q : XT cA ad en (21 + 3 * t2) (S.2.1 t2) := hC.rt h_t2; rw [hS_t2] at q; exact q
          refine lv_aload_n hx hb dX4_firstText_0 rfl (lv_at hl 0 rfl) ?_
          refine lv_iload_n hx hb dX4_firstText_1 rfl (lv_at hl 1 rfl) ?_
          refine xv_q (i := 0) (As := [.int (xI (t1 : Int))]) (rest := []) ⟨hx, hb, hml, hown, hts⟩ hl.1 (c_X4_textOf_in l D cA n ad en (by omega) hC t1 (by omega)) k_X4_textOf u_ml_RX4_97 hK hN hP (by omega) hC.1 rfl rfl rfl rfl (Nat.le_of_ble_eq_true rfl) ⟨Nat.le_of_ble_eq_true rfl, Nat.le_of_ble_eq_true rfl⟩ ⟨Nat.le_of_ble_eq_true rfl, Nat.le_of_ble_eq_true rfl⟩ dX4_firstText_2 ?_
          refine lv_astore (lv' := [(4, .ref (ad (21 + 3 * t1))), (0, .ref (ad 0)), (1, .int (xI (t1 : Int))), (2, .int (xI (t2 : Int))), (3, .int (xI z3))]) hx hb dX4_firstText_5 hl (by decide) rfl (fun ls hl => ?_)
          refine lv_aload_n hx hb dX4_firstText_7 rfl (lv_at hl 1 rfl) ?_
          refine lv_iload_n hx hb dX4_firstText_8 rfl (lv_at hl 3 rfl) ?_
          refine xv_q (i := 0) (As := [.int (xI (t2 : Int))]) (rest := []) ⟨hx, hb, hml, hown, hts⟩ hl.1 (c_X4_textOf_in l D cA n ad en (by omega) hC t2 (by omega)) k_X4_textOf u_ml_RX4_97 hK hN hP (by omega) hC.1 rfl rfl rfl rfl (Nat.le_of_ble_eq_true rfl) ⟨Nat.le_of_ble_eq_true rfl, Nat.le_of_ble_eq_true rfl⟩ ⟨Nat.le_of_ble_eq_true rfl, Nat.le_of_ble_eq_true rfl⟩ dX4_firstText_9 ?_
          refine lv_astore (lv' := [(5, .ref (ad (21 + 3 * t2))), (4, .ref (ad (21 + 3 * t1))), (0, .ref (ad 0)), (1, .int (xI (t1 : Int))), (2, .int (xI (t2 : Int))), (3, .int (xI z3))]) hx hb dX4_firstText_12 hl (by decide) rfl (fun ls hl => ?_)
          refine lv_aload hx hb dX4_firstText_14 (lv_at hl 1 rfl) ?_
          refine lv_ifnull hx hb dX4_firstText_16 ?_
          refine lv_aload hx hb dX4_firstText_19 (lv_at hl 0 rfl) ?_
          refine lv_ifnonnull (tgt := 28) hx hb dX4_firstText_21 (by decide) ?_
          refine lv_aload hx hb dX4_firstText_28 (lv_at hl 1 rfl) ?_
          refine x_getn (T := TX3) (N := 2) hx hb hts uX3 hown hN hK hP (i := 21 + 3 * t1) (by omega) hT_t1.1 rfl 1 (by decide) (by simp only [xNest, List.mem_cons]; exact Or.inr (Or.inr (Or.inr (Or.inr (Or.inr (Or.inr (Or.inl rfl))))))) rfl dX4_firstText_30 ?_
          refine x_if_ne (tgt := 44) hx hb dX4_firstText_33 (by decide) (by omega) (fun c_33 => ?_) (fun c_33 => absurd c_33 (by omega))
          refine x_sipush hx hb dX4_firstText_44 (by decide +kernel) ?_
          exact xr_i hx hb hrt hlocks ((by unfold am_firstText; simp only [Int.toNat_natCast]; rw [sp_if_f (by omega), sp_if_t (by simp [hS_t1, hS_t2])])) dX4_firstText_47
        · have hT_t1 : XT cA ad en (21 + 3 * t1) none := by have q : XT cA ad en (21 + 3 * t1) (S.2.1 t1) := hC.rt h_t1; rw [hS_t1] at q; exact q
          have hT_t2 : XT cA ad en (21 + 3 * t2) (some r_t2) := by have q : XT cA ad en (21 + 3 * t2) (S.2.1 t2) := hC.rt h_t2; rw [hS_t2] at q; exact q
          have hr_t2 := hT_t2.2
          have hm_t2 := hr_t2.2.2.1
          refine lv_aload_n hx hb dX4_firstText_0 rfl (lv_at hl 0 rfl) ?_
          refine lv_iload_n hx hb dX4_firstText_1 rfl (lv_at hl 1 rfl) ?_
          refine xv_q (i := 0) (As := [.int (xI (t1 : Int))]) (rest := []) ⟨hx, hb, hml, hown, hts⟩ hl.1 (c_X4_textOf_in l D cA n ad en (by omega) hC t1 (by omega)) k_X4_textOf u_ml_RX4_97 hK hN hP (by omega) hC.1 rfl rfl rfl rfl (Nat.le_of_ble_eq_true rfl) ⟨Nat.le_of_ble_eq_true rfl, Nat.le_of_ble_eq_true rfl⟩ ⟨Nat.le_of_ble_eq_true rfl, Nat.le_of_ble_eq_true rfl⟩ dX4_firstText_2 ?_
          refine lv_astore (lv' := [(4, .ref (ad (21 + 3 * t1))), (0, .ref (ad 0)), (1, .int (xI (t1 : Int))), (2, .int (xI (t2 : Int))), (3, .int (xI z3))]) hx hb dX4_firstText_5 hl (by decide) rfl (fun ls hl => ?_)
          refine lv_aload_n hx hb dX4_firstText_7 rfl (lv_at hl 1 rfl) ?_
          refine lv_iload_n hx hb dX4_firstText_8 rfl (lv_at hl 3 rfl) ?_
          refine xv_q (i := 0) (As := [.int (xI (t2 : Int))]) (rest := []) ⟨hx, hb, hml, hown, hts⟩ hl.1 (c_X4_textOf_in l D cA n ad en (by omega) hC t2 (by omega)) k_X4_textOf u_ml_RX4_97 hK hN hP (by omega) hC.1 rfl rfl rfl rfl (Nat.le_of_ble_eq_true rfl) ⟨Nat.le_of_ble_eq_true rfl, Nat.le_of_ble_eq_true rfl⟩ ⟨Nat.le_of_ble_eq_true rfl, Nat.le_of_ble_eq_true rfl⟩ dX4_firstText_9 ?_
          refine lv_astore (lv' := [(5, .ref (ad (21 + 3 * t2))), (4, .ref (ad (21 + 3 * t1))), (0, .ref (ad 0)), (1, .int (xI (t1 : Int))), (2, .int (xI (t2 : Int))), (3, .int (xI z3))]) hx hb dX4_firstText_12 hl (by decide) rfl (fun ls hl => ?_)
          refine lv_aload hx hb dX4_firstText_14 (lv_at hl 1 rfl) ?_
          refine lv_ifnull hx hb dX4_firstText_16 ?_
          refine lv_aload hx hb dX4_firstText_19 (lv_at hl 0 rfl) ?_
          refine lv_ifnonnull (tgt := 28) hx hb dX4_firstText_21 (by decide) ?_
          refine lv_aload hx hb dX4_firstText_28 (lv_at hl 1 rfl) ?_
          refine x_getn (T := TX3) (N := 2) hx hb hts uX3 hown hN hK hP (i := 21 + 3 * t1) (by omega) hT_t1.1 rfl 1 (by decide) (by simp only [xNest, List.mem_cons]; exact Or.inr (Or.inr (Or.inr (Or.inr (Or.inr (Or.inr (Or.inl rfl))))))) rfl dX4_firstText_30 ?_
          refine x_if_ne (tgt := 44) hx hb dX4_firstText_33 (by decide) (by omega) (fun c_33 => ?_) (fun c_33 => absurd c_33 (by omega))
          refine x_sipush hx hb dX4_firstText_44 (by decide +kernel) ?_
          exact xr_i hx hb hrt hlocks ((by unfold am_firstText; simp only [Int.toNat_natCast]; simp only [sp_get_s hS_t2]; rw [sp_if_f (by omega), sp_if_t (by simp [hS_t1, hS_t2])])) dX4_firstText_47
      · have hT_t1 : XT cA ad en (21 + 3 * t1) none := by have q : XT cA ad en (21 + 3 * t1) (S.2.1 t1) := hC.rt h_t1; rw [hS_t1] at q; exact q
        refine lv_aload_n hx hb dX4_firstText_0 rfl (lv_at hl 0 rfl) ?_
        refine lv_iload_n hx hb dX4_firstText_1 rfl (lv_at hl 1 rfl) ?_
        refine xv_q (i := 0) (As := [.int (xI (t1 : Int))]) (rest := []) ⟨hx, hb, hml, hown, hts⟩ hl.1 (c_X4_textOf_in l D cA n ad en (by omega) hC t1 (by omega)) k_X4_textOf u_ml_RX4_97 hK hN hP (by omega) hC.1 rfl rfl rfl rfl (Nat.le_of_ble_eq_true rfl) ⟨Nat.le_of_ble_eq_true rfl, Nat.le_of_ble_eq_true rfl⟩ ⟨Nat.le_of_ble_eq_true rfl, Nat.le_of_ble_eq_true rfl⟩ dX4_firstText_2 ?_
        refine lv_astore (lv' := [(4, .ref (ad (21 + 3 * t1))), (0, .ref (ad 0)), (1, .int (xI (t1 : Int))), (2, .int (xI z2)), (3, .int (xI z3))]) hx hb dX4_firstText_5 hl (by decide) rfl (fun ls hl => ?_)
        refine lv_aload_n hx hb dX4_firstText_7 rfl (lv_at hl 1 rfl) ?_
        refine lv_iload_n hx hb dX4_firstText_8 rfl (lv_at hl 3 rfl) ?_
        refine xv_q (i := 0) (As := [.int (xI z2)]) (rest := []) ⟨hx, hb, hml, hown, hts⟩ hl.1 (c_X4_textOf_out l D cA n ad en (by omega) hC z2 (by omega) (by omega)) k_X4_textOf u_ml_RX4_97 hK hN hP (by omega) hC.1 rfl rfl rfl rfl (Nat.le_of_ble_eq_true rfl) ⟨Nat.le_of_ble_eq_true rfl, Nat.le_of_ble_eq_true rfl⟩ ⟨Nat.le_of_ble_eq_true rfl, Nat.le_of_ble_eq_true rfl⟩ dX4_firstText_9 ?_
        refine lv_astoreN (lv' := [(5, .null), (4, .ref (ad (21 + 3 * t1))), (0, .ref (ad 0)), (1, .int (xI (t1 : Int))), (2, .int (xI z2)), (3, .int (xI z3))]) hx hb dX4_firstText_12 hl (by decide) rfl (fun ls hl => ?_)
        refine lv_aload hx hb dX4_firstText_14 (lv_at hl 1 rfl) ?_
        refine lv_ifnull hx hb dX4_firstText_16 ?_
        refine lv_aloadN hx hb dX4_firstText_19 (lv_at hl 0 rfl) ?_
        refine lv_ifnonnullN hx hb dX4_firstText_21 ?_
        refine x_sipush hx hb dX4_firstText_24 (by decide +kernel) ?_
        exact xr_i hx hb hrt hlocks ((by unfold am_firstText; simp only [Int.toNat_natCast]; rw [sp_if_t (by omega)])) dX4_firstText_27
    · rcases Classical.em (0 ≤ z2 ∧ z2 < 8) with hx_z2 | hx_z2
      · obtain ⟨t2, rfl⟩ : ∃ q : Nat, z2 = (q : Int) := ⟨z2.toNat, by omega⟩
        have h_t2 : t2 < 8 := by omega
        rcases hS_t2 : S.2.1 t2 with _ | r_t2
        · have hT_t1 : XT cA ad en (21 + 3 * t1) (some r_t1) := by have q : XT cA ad en (21 + 3 * t1) (S.2.1 t1) := hC.rt h_t1; rw [hS_t1] at q; exact q
          have hr_t1 := hT_t1.2
          have hm_t1 := hr_t1.2.2.1
          have hT_t2 : XT cA ad en (21 + 3 * t2) none := by have q : XT cA ad en (21 + 3 * t2) (S.2.1 t2) := hC.rt h_t2; rw [hS_t2] at q; exact q
          refine lv_aload_n hx hb dX4_firstText_0 rfl (lv_at hl 0 rfl) ?_
          refine lv_iload_n hx hb dX4_firstText_1 rfl (lv_at hl 1 rfl) ?_
          refine xv_q (i := 0) (As := [.int (xI (t1 : Int))]) (rest := []) ⟨hx, hb, hml, hown, hts⟩ hl.1 (c_X4_textOf_in l D cA n ad en (by omega) hC t1 (by omega)) k_X4_textOf u_ml_RX4_97 hK hN hP (by omega) hC.1 rfl rfl rfl rfl (Nat.le_of_ble_eq_true rfl) ⟨Nat.le_of_ble_eq_true rfl, Nat.le_of_ble_eq_true rfl⟩ ⟨Nat.le_of_ble_eq_true rfl, Nat.le_of_ble_eq_true rfl⟩ dX4_firstText_2 ?_
          refine lv_astore (lv' := [(4, .ref (ad (21 + 3 * t1))), (0, .ref (ad 0)), (1, .int (xI (t1 : Int))), (2, .int (xI (t2 : Int))), (3, .int (xI z3))]) hx hb dX4_firstText_5 hl (by decide) rfl (fun ls hl => ?_)
          refine lv_aload_n hx hb dX4_firstText_7 rfl (lv_at hl 1 rfl) ?_
          refine lv_iload_n hx hb dX4_firstText_8 rfl (lv_at hl 3 rfl) ?_
          refine xv_q (i := 0) (As := [.int (xI (t2 : Int))]) (rest := []) ⟨hx, hb, hml, hown, hts⟩ hl.1 (c_X4_textOf_in l D cA n ad en (by omega) hC t2 (by omega)) k_X4_textOf u_ml_RX4_97 hK hN hP (by omega) hC.1 rfl rfl rfl rfl (Nat.le_of_ble_eq_true rfl) ⟨Nat.le_of_ble_eq_true rfl, Nat.le_of_ble_eq_true rfl⟩ ⟨Nat.le_of_ble_eq_true rfl, Nat.le_of_ble_eq_true rfl⟩ dX4_firstText_9 ?_
          refine lv_astore (lv' := [(5, .ref (ad (21 + 3 * t2))), (4, .ref (ad (21 + 3 * t1))), (0, .ref (ad 0)), (1, .int (xI (t1 : Int))), (2, .int (xI (t2 : Int))), (3, .int (xI z3))]) hx hb dX4_firstText_12 hl (by decide) rfl (fun ls hl => ?_)
          refine lv_aload hx hb dX4_firstText_14 (lv_at hl 1 rfl) ?_
          refine lv_ifnull hx hb dX4_firstText_16 ?_
          refine lv_aload hx hb dX4_firstText_19 (lv_at hl 0 rfl) ?_
          refine lv_ifnonnull (tgt := 28) hx hb dX4_firstText_21 (by decide) ?_
          refine lv_aload hx hb dX4_firstText_28 (lv_at hl 1 rfl) ?_
          refine x_getn (T := TX3) (N := 2) hx hb hts uX3 hown hN hK hP (i := 21 + 3 * t1) (by omega) hT_t1.1 rfl 1 (by decide) (by simp only [xNest, List.mem_cons]; exact Or.inr (Or.inr (Or.inr (Or.inr (Or.inr (Or.inr (Or.inl rfl))))))) rfl dX4_firstText_30 ?_
          refine x_if_ne (tgt := 44) hx hb dX4_firstText_33 (by decide) (by omega) (fun c_33 => absurd c_33 (by omega)) (fun c_33 => ?_)
          refine lv_aload hx hb dX4_firstText_36 (lv_at hl 0 rfl) ?_
          refine x_getn (T := TX3) (N := 2) hx hb hts uX3 hown hN hK hP (i := 21 + 3 * t2) (by omega) hT_t2.1 rfl 1 (by decide) (by simp only [xNest, List.mem_cons]; exact Or.inr (Or.inr (Or.inr (Or.inr (Or.inr (Or.inr (Or.inl rfl))))))) rfl dX4_firstText_38 ?_
          refine x_if_eq (tgt := 48) hx hb dX4_firstText_41 (by decide) (by omega) (fun c_41 => absurd c_41 (by omega)) (fun c_41 => ?_)
          refine x_sipush hx hb dX4_firstText_44 (by decide +kernel) ?_
          exact xr_i hx hb hrt hlocks ((by unfold am_firstText; simp only [Int.toNat_natCast]; simp only [sp_get_s hS_t1]; rw [sp_if_f (by omega), sp_if_t (by simp [hS_t1, hS_t2])])) dX4_firstText_47
        · have hT_t1 : XT cA ad en (21 + 3 * t1) (some r_t1) := by have q : XT cA ad en (21 + 3 * t1) (S.2.1 t1) := hC.rt h_t1; rw [hS_t1] at q; exact q
          have hr_t1 := hT_t1.2
          have hm_t1 := hr_t1.2.2.1
          have hT_t2 : XT cA ad en (21 + 3 * t2) (some r_t2) := by have q : XT cA ad en (21 + 3 * t2) (S.2.1 t2) := hC.rt h_t2; rw [hS_t2] at q; exact q
          have hr_t2 := hT_t2.2
          have hm_t2 := hr_t2.2.2.1
          refine lv_aload_n hx hb dX4_firstText_0 rfl (lv_at hl 0 rfl) ?_
          refine lv_iload_n hx hb dX4_firstText_1 rfl (lv_at hl 1 rfl) ?_
          refine xv_q (i := 0) (As := [.int (xI (t1 : Int))]) (rest := []) ⟨hx, hb, hml, hown, hts⟩ hl.1 (c_X4_textOf_in l D cA n ad en (by omega) hC t1 (by omega)) k_X4_textOf u_ml_RX4_97 hK hN hP (by omega) hC.1 rfl rfl rfl rfl (Nat.le_of_ble_eq_true rfl) ⟨Nat.le_of_ble_eq_true rfl, Nat.le_of_ble_eq_true rfl⟩ ⟨Nat.le_of_ble_eq_true rfl, Nat.le_of_ble_eq_true rfl⟩ dX4_firstText_2 ?_
          refine lv_astore (lv' := [(4, .ref (ad (21 + 3 * t1))), (0, .ref (ad 0)), (1, .int (xI (t1 : Int))), (2, .int (xI (t2 : Int))), (3, .int (xI z3))]) hx hb dX4_firstText_5 hl (by decide) rfl (fun ls hl => ?_)
          refine lv_aload_n hx hb dX4_firstText_7 rfl (lv_at hl 1 rfl) ?_
          refine lv_iload_n hx hb dX4_firstText_8 rfl (lv_at hl 3 rfl) ?_
          refine xv_q (i := 0) (As := [.int (xI (t2 : Int))]) (rest := []) ⟨hx, hb, hml, hown, hts⟩ hl.1 (c_X4_textOf_in l D cA n ad en (by omega) hC t2 (by omega)) k_X4_textOf u_ml_RX4_97 hK hN hP (by omega) hC.1 rfl rfl rfl rfl (Nat.le_of_ble_eq_true rfl) ⟨Nat.le_of_ble_eq_true rfl, Nat.le_of_ble_eq_true rfl⟩ ⟨Nat.le_of_ble_eq_true rfl, Nat.le_of_ble_eq_true rfl⟩ dX4_firstText_9 ?_
          refine lv_astore (lv' := [(5, .ref (ad (21 + 3 * t2))), (4, .ref (ad (21 + 3 * t1))), (0, .ref (ad 0)), (1, .int (xI (t1 : Int))), (2, .int (xI (t2 : Int))), (3, .int (xI z3))]) hx hb dX4_firstText_12 hl (by decide) rfl (fun ls hl => ?_)
          refine lv_aload hx hb dX4_firstText_14 (lv_at hl 1 rfl) ?_
          refine lv_ifnull hx hb dX4_firstText_16 ?_
          refine lv_aload hx hb dX4_firstText_19 (lv_at hl 0 rfl) ?_
          refine lv_ifnonnull (tgt := 28) hx hb dX4_firstText_21 (by decide) ?_
          refine lv_aload hx hb dX4_firstText_28 (lv_at hl 1 rfl) ?_
          refine x_getn (T := TX3) (N := 2) hx hb hts uX3 hown hN hK hP (i := 21 + 3 * t1) (by omega) hT_t1.1 rfl 1 (by decide) (by simp only [xNest, List.mem_cons]; exact Or.inr (Or.inr (Or.inr (Or.inr (Or.inr (Or.inr (Or.inl rfl))))))) rfl dX4_firstText_30 ?_
          refine x_if_ne (tgt := 44) hx hb dX4_firstText_33 (by decide) (by omega) (fun c_33 => absurd c_33 (by omega)) (fun c_33 => ?_)
          refine lv_aload hx hb dX4_firstText_36 (lv_at hl 0 rfl) ?_
          refine x_getn (T := TX3) (N := 2) hx hb hts uX3 hown hN hK hP (i := 21 + 3 * t2) (by omega) hT_t2.1 rfl 1 (by decide) (by simp only [xNest, List.mem_cons]; exact Or.inr (Or.inr (Or.inr (Or.inr (Or.inr (Or.inr (Or.inl rfl))))))) rfl dX4_firstText_38 ?_
          refine x_if_eq (tgt := 48) hx hb dX4_firstText_41 (by decide) (by omega) (fun c_41 => ?_) (fun c_41 => absurd c_41 (by omega))
          refine lv_aload hx hb dX4_firstText_48 (lv_at hl 1 rfl) ?_
          refine x_getn (T := TX3) (N := 2) hx hb hts uX3 hown hN hK hP (i := 21 + 3 * t1) (by omega) hT_t1.1 rfl 0 (by decide) (by simp only [xNest, List.mem_cons]; exact Or.inr (Or.inr (Or.inr (Or.inr (Or.inr (Or.inl rfl)))))) rfl dX4_firstText_50 ?_
          refine lv_aload hx hb dX4_firstText_53 (lv_at hl 0 rfl) ?_
          refine x_getn (T := TX3) (N := 2) hx hb hts uX3 hown hN hK hP (i := 21 + 3 * t2) (by omega) hT_t2.1 rfl 0 (by decide) (by simp only [xNest, List.mem_cons]; exact Or.inr (Or.inr (Or.inr (Or.inr (Or.inr (Or.inl rfl)))))) rfl dX4_firstText_55 ?_
          refine lv_iload_n hx hb dX4_firstText_58 rfl (lv_at hl 5 rfl) ?_
          refine xv_i (i := 21 + 3 * t1 + 1) (As := [.ref (ad (21 + 3 * t2 + 1)), .int (xI z3)]) (rest := []) ⟨hx, hb, hml, hown, hts⟩ hl.1 (c_X2_findForward l D cA n ad en (by omega) hr_t1 (by omega) hr_t2 z3 (by omega)) k_X2_findForward u_ml_RX4_122 hK hN hP (by omega) hr_t1.1 rfl rfl rfl rfl (Nat.le_of_ble_eq_true rfl) ⟨Nat.le_of_ble_eq_true rfl, Nat.le_of_ble_eq_true rfl⟩ ⟨Nat.le_of_ble_eq_true rfl, Nat.le_of_ble_eq_true rfl⟩ dX4_firstText_59 ?_
          exact xr_i hx hb hrt hlocks ((by unfold am_firstText; simp only [Int.toNat_natCast]; simp only [sp_get_s hS_t1, sp_get_s hS_t2]; rw [sp_if_f (by omega), sp_if_f (by simp [hS_t1, hS_t2])])) dX4_firstText_62
      · have hT_t1 : XT cA ad en (21 + 3 * t1) (some r_t1) := by have q : XT cA ad en (21 + 3 * t1) (S.2.1 t1) := hC.rt h_t1; rw [hS_t1] at q; exact q
        have hr_t1 := hT_t1.2
        have hm_t1 := hr_t1.2.2.1
        refine lv_aload_n hx hb dX4_firstText_0 rfl (lv_at hl 0 rfl) ?_
        refine lv_iload_n hx hb dX4_firstText_1 rfl (lv_at hl 1 rfl) ?_
        refine xv_q (i := 0) (As := [.int (xI (t1 : Int))]) (rest := []) ⟨hx, hb, hml, hown, hts⟩ hl.1 (c_X4_textOf_in l D cA n ad en (by omega) hC t1 (by omega)) k_X4_textOf u_ml_RX4_97 hK hN hP (by omega) hC.1 rfl rfl rfl rfl (Nat.le_of_ble_eq_true rfl) ⟨Nat.le_of_ble_eq_true rfl, Nat.le_of_ble_eq_true rfl⟩ ⟨Nat.le_of_ble_eq_true rfl, Nat.le_of_ble_eq_true rfl⟩ dX4_firstText_2 ?_
        refine lv_astore (lv' := [(4, .ref (ad (21 + 3 * t1))), (0, .ref (ad 0)), (1, .int (xI (t1 : Int))), (2, .int (xI z2)), (3, .int (xI z3))]) hx hb dX4_firstText_5 hl (by decide) rfl (fun ls hl => ?_)
        refine lv_aload_n hx hb dX4_firstText_7 rfl (lv_at hl 1 rfl) ?_
        refine lv_iload_n hx hb dX4_firstText_8 rfl (lv_at hl 3 rfl) ?_
        refine xv_q (i := 0) (As := [.int (xI z2)]) (rest := []) ⟨hx, hb, hml, hown, hts⟩ hl.1 (c_X4_textOf_out l D cA n ad en (by omega) hC z2 (by omega) (by omega)) k_X4_textOf u_ml_RX4_97 hK hN hP (by omega) hC.1 rfl rfl rfl rfl (Nat.le_of_ble_eq_true rfl) ⟨Nat.le_of_ble_eq_true rfl, Nat.le_of_ble_eq_true rfl⟩ ⟨Nat.le_of_ble_eq_true rfl, Nat.le_of_ble_eq_true rfl⟩ dX4_firstText_9 ?_
        refine lv_astoreN (lv' := [(5, .null), (4, .ref (ad (21 + 3 * t1))), (0, .ref (ad 0)), (1, .int (xI (t1 : Int))), (2, .int (xI z2)), (3, .int (xI z3))]) hx hb dX4_firstText_12 hl (by decide) rfl (fun ls hl => ?_)
        refine lv_aload hx hb dX4_firstText_14 (lv_at hl 1 rfl) ?_
        refine lv_ifnull hx hb dX4_firstText_16 ?_
        refine lv_aloadN hx hb dX4_firstText_19 (lv_at hl 0 rfl) ?_
        refine lv_ifnonnullN hx hb dX4_firstText_21 ?_
        refine x_sipush hx hb dX4_firstText_24 (by decide +kernel) ?_
        exact xr_i hx hb hrt hlocks ((by unfold am_firstText; simp only [Int.toNat_natCast]; simp only [sp_get_s hS_t1]; rw [sp_if_t (by omega)])) dX4_firstText_27
  · rcases Classical.em (0 ≤ z2 ∧ z2 < 8) with hx_z2 | hx_z2
    · obtain ⟨t2, rfl⟩ : ∃ q : Nat, z2 = (q : Int) := ⟨z2.toNat, by omega⟩
      have h_t2 : t2 < 8 := by omega
      rcases hS_t2 : S.2.1 t2 with _ | r_t2
      · have hT_t2 : XT cA ad en (21 + 3 * t2) none := by have q : XT cA ad en (21 + 3 * t2) (S.2.1 t2) := hC.rt h_t2; rw [hS_t2] at q; exact q
        refine lv_aload_n hx hb dX4_firstText_0 rfl (lv_at hl 0 rfl) ?_
        refine lv_iload_n hx hb dX4_firstText_1 rfl (lv_at hl 1 rfl) ?_
        refine xv_q (i := 0) (As := [.int (xI z1)]) (rest := []) ⟨hx, hb, hml, hown, hts⟩ hl.1 (c_X4_textOf_out l D cA n ad en (by omega) hC z1 (by omega) (by omega)) k_X4_textOf u_ml_RX4_97 hK hN hP (by omega) hC.1 rfl rfl rfl rfl (Nat.le_of_ble_eq_true rfl) ⟨Nat.le_of_ble_eq_true rfl, Nat.le_of_ble_eq_true rfl⟩ ⟨Nat.le_of_ble_eq_true rfl, Nat.le_of_ble_eq_true rfl⟩ dX4_firstText_2 ?_
        refine lv_astoreN (lv' := [(4, .null), (0, .ref (ad 0)), (1, .int (xI z1)), (2, .int (xI (t2 : Int))), (3, .int (xI z3))]) hx hb dX4_firstText_5 hl (by decide) rfl (fun ls hl => ?_)
        refine lv_aload_n hx hb dX4_firstText_7 rfl (lv_at hl 1 rfl) ?_
        refine lv_iload_n hx hb dX4_firstText_8 rfl (lv_at hl 3 rfl) ?_
        refine xv_q (i := 0) (As := [.int (xI (t2 : Int))]) (rest := []) ⟨hx, hb, hml, hown, hts⟩ hl.1 (c_X4_textOf_in l D cA n ad en (by omega) hC t2 (by omega)) k_X4_textOf u_ml_RX4_97 hK hN hP (by omega) hC.1 rfl rfl rfl rfl (Nat.le_of_ble_eq_true rfl) ⟨Nat.le_of_ble_eq_true rfl, Nat.le_of_ble_eq_true rfl⟩ ⟨Nat.le_of_ble_eq_true rfl, Nat.le_of_ble_eq_true rfl⟩ dX4_firstText_9 ?_
        refine lv_astore (lv' := [(5, .ref (ad (21 + 3 * t2))), (4, .null), (0, .ref (ad 0)), (1, .int (xI z1)), (2, .int (xI (t2 : Int))), (3, .int (xI z3))]) hx hb dX4_firstText_12 hl (by decide) rfl (fun ls hl => ?_)
        refine lv_aloadN hx hb dX4_firstText_14 (lv_at hl 1 rfl) ?_
        refine lv_ifnullN (tgt := 24) hx hb dX4_firstText_16 (by decide) ?_
        refine x_sipush hx hb dX4_firstText_24 (by decide +kernel) ?_
        exact xr_i hx hb hrt hlocks ((by unfold am_firstText; simp only [Int.toNat_natCast]; rw [sp_if_t (by omega)])) dX4_firstText_27
      · have hT_t2 : XT cA ad en (21 + 3 * t2) (some r_t2) := by have q : XT cA ad en (21 + 3 * t2) (S.2.1 t2) := hC.rt h_t2; rw [hS_t2] at q; exact q
        have hr_t2 := hT_t2.2
        have hm_t2 := hr_t2.2.2.1
        refine lv_aload_n hx hb dX4_firstText_0 rfl (lv_at hl 0 rfl) ?_
        refine lv_iload_n hx hb dX4_firstText_1 rfl (lv_at hl 1 rfl) ?_
        refine xv_q (i := 0) (As := [.int (xI z1)]) (rest := []) ⟨hx, hb, hml, hown, hts⟩ hl.1 (c_X4_textOf_out l D cA n ad en (by omega) hC z1 (by omega) (by omega)) k_X4_textOf u_ml_RX4_97 hK hN hP (by omega) hC.1 rfl rfl rfl rfl (Nat.le_of_ble_eq_true rfl) ⟨Nat.le_of_ble_eq_true rfl, Nat.le_of_ble_eq_true rfl⟩ ⟨Nat.le_of_ble_eq_true rfl, Nat.le_of_ble_eq_true rfl⟩ dX4_firstText_2 ?_
        refine lv_astoreN (lv' := [(4, .null), (0, .ref (ad 0)), (1, .int (xI z1)), (2, .int (xI (t2 : Int))), (3, .int (xI z3))]) hx hb dX4_firstText_5 hl (by decide) rfl (fun ls hl => ?_)
        refine lv_aload_n hx hb dX4_firstText_7 rfl (lv_at hl 1 rfl) ?_
        refine lv_iload_n hx hb dX4_firstText_8 rfl (lv_at hl 3 rfl) ?_
        refine xv_q (i := 0) (As := [.int (xI (t2 : Int))]) (rest := []) ⟨hx, hb, hml, hown, hts⟩ hl.1 (c_X4_textOf_in l D cA n ad en (by omega) hC t2 (by omega)) k_X4_textOf u_ml_RX4_97 hK hN hP (by omega) hC.1 rfl rfl rfl rfl (Nat.le_of_ble_eq_true rfl) ⟨Nat.le_of_ble_eq_true rfl, Nat.le_of_ble_eq_true rfl⟩ ⟨Nat.le_of_ble_eq_true rfl, Nat.le_of_ble_eq_true rfl⟩ dX4_firstText_9 ?_
        refine lv_astore (lv' := [(5, .ref (ad (21 + 3 * t2))), (4, .null), (0, .ref (ad 0)), (1, .int (xI z1)), (2, .int (xI (t2 : Int))), (3, .int (xI z3))]) hx hb dX4_firstText_12 hl (by decide) rfl (fun ls hl => ?_)
        refine lv_aloadN hx hb dX4_firstText_14 (lv_at hl 1 rfl) ?_
        refine lv_ifnullN (tgt := 24) hx hb dX4_firstText_16 (by decide) ?_
        refine x_sipush hx hb dX4_firstText_24 (by decide +kernel) ?_
        exact xr_i hx hb hrt hlocks ((by unfold am_firstText; simp only [Int.toNat_natCast]; simp only [sp_get_s hS_t2]; rw [sp_if_t (by omega)])) dX4_firstText_27
    · refine lv_aload_n hx hb dX4_firstText_0 rfl (lv_at hl 0 rfl) ?_
      refine lv_iload_n hx hb dX4_firstText_1 rfl (lv_at hl 1 rfl) ?_
      refine xv_q (i := 0) (As := [.int (xI z1)]) (rest := []) ⟨hx, hb, hml, hown, hts⟩ hl.1 (c_X4_textOf_out l D cA n ad en (by omega) hC z1 (by omega) (by omega)) k_X4_textOf u_ml_RX4_97 hK hN hP (by omega) hC.1 rfl rfl rfl rfl (Nat.le_of_ble_eq_true rfl) ⟨Nat.le_of_ble_eq_true rfl, Nat.le_of_ble_eq_true rfl⟩ ⟨Nat.le_of_ble_eq_true rfl, Nat.le_of_ble_eq_true rfl⟩ dX4_firstText_2 ?_
      refine lv_astoreN (lv' := [(4, .null), (0, .ref (ad 0)), (1, .int (xI z1)), (2, .int (xI z2)), (3, .int (xI z3))]) hx hb dX4_firstText_5 hl (by decide) rfl (fun ls hl => ?_)
      refine lv_aload_n hx hb dX4_firstText_7 rfl (lv_at hl 1 rfl) ?_
      refine lv_iload_n hx hb dX4_firstText_8 rfl (lv_at hl 3 rfl) ?_
      refine xv_q (i := 0) (As := [.int (xI z2)]) (rest := []) ⟨hx, hb, hml, hown, hts⟩ hl.1 (c_X4_textOf_out l D cA n ad en (by omega) hC z2 (by omega) (by omega)) k_X4_textOf u_ml_RX4_97 hK hN hP (by omega) hC.1 rfl rfl rfl rfl (Nat.le_of_ble_eq_true rfl) ⟨Nat.le_of_ble_eq_true rfl, Nat.le_of_ble_eq_true rfl⟩ ⟨Nat.le_of_ble_eq_true rfl, Nat.le_of_ble_eq_true rfl⟩ dX4_firstText_9 ?_
      refine lv_astoreN (lv' := [(5, .null), (4, .null), (0, .ref (ad 0)), (1, .int (xI z1)), (2, .int (xI z2)), (3, .int (xI z3))]) hx hb dX4_firstText_12 hl (by decide) rfl (fun ls hl => ?_)
      refine lv_aloadN hx hb dX4_firstText_14 (lv_at hl 1 rfl) ?_
      refine lv_ifnullN (tgt := 24) hx hb dX4_firstText_16 (by decide) ?_
      refine x_sipush hx hb dX4_firstText_24 (by decide +kernel) ?_
      exact xr_i hx hb hrt hlocks ((by unfold am_firstText; rw [sp_if_t (by omega)])) dX4_firstText_27

set_option maxRecDepth 20000 in
theorem c_X4_lastText (l : Launch) (D : va_G) (cA : Nat → ClassId) (n : Nat) (ad : Nat → Nat) (en : Nat → va_E) (hn : 53 ≤ n) {S : xSt} (hC : CW cA ad en S) (z1 : Int) (hz1 : -2147483648 ≤ z1 ∧ z1 ≤ 2147483647) (z2 : Int) (hz2 : -2147483648 ≤ z2 ∧ z2 ≤ 2147483647) (z3 : Int) (hz3 : -2147483648 ≤ z3 ∧ z3 ≤ 2147483647) : Met l yX4_lastText (Cond.code yX4_lastText cX4_lastText 6 (some .int) :: xU) (xrm 5 112) (va_Pc [.ref (ad 0), .int (xI z1), .int (xI z2), .int (xI z3)] (xB D cA n ad en)) (vp_Si (fun z => z = xI (am_lastText S z1 z2 z3))) 0 0 (fun _ => False) := by
  refine xmet (by decide) (Nat.le_of_ble_eq_true rfl) (fun p e s mm args below meth c ls hx hb hrt hml hown hts hlocks hname hB hl => ?_)
  obtain ⟨hP, hK, hN⟩ := hB
  have hl : lv_has ls 6 [(0, .ref (ad 0)), (1, .int (xI z1)), (2, .int (xI z2)), (3, .int (xI z3))] := hl
  rcases Classical.em (0 ≤ z1 ∧ z1 < 8) with hx_z1 | hx_z1
  · obtain ⟨t1, rfl⟩ : ∃ q : Nat, z1 = (q : Int) := ⟨z1.toNat, by omega⟩
    have h_t1 : t1 < 8 := by omega
    rcases hS_t1 : S.2.1 t1 with _ | r_t1
    · rcases Classical.em (0 ≤ z2 ∧ z2 < 8) with hx_z2 | hx_z2
      · obtain ⟨t2, rfl⟩ : ∃ q : Nat, z2 = (q : Int) := ⟨z2.toNat, by omega⟩
        have h_t2 : t2 < 8 := by omega
        rcases hS_t2 : S.2.1 t2 with _ | r_t2
        · have hT_t1 : XT cA ad en (21 + 3 * t1) none := by have q : XT cA ad en (21 + 3 * t1) (S.2.1 t1) := hC.rt h_t1; rw [hS_t1] at q; exact q
          have hT_t2 : XT cA ad en (21 + 3 * t2) none := by have q : XT cA ad en (21 + 3 * t2) (S.2.1 t2) := hC.rt h_t2; rw [hS_t2] at q; exact q
          refine lv_aload_n hx hb dX4_lastText_0 rfl (lv_at hl 0 rfl) ?_
          refine lv_iload_n hx hb dX4_lastText_1 rfl (lv_at hl 1 rfl) ?_
          refine xv_q (i := 0) (As := [.int (xI (t1 : Int))]) (rest := []) ⟨hx, hb, hml, hown, hts⟩ hl.1 (c_X4_textOf_in l D cA n ad en (by omega) hC t1 (by omega)) k_X4_textOf u_ml_RX4_97 hK hN hP (by omega) hC.1 rfl rfl rfl rfl (Nat.le_of_ble_eq_true rfl) ⟨Nat.le_of_ble_eq_true rfl, Nat.le_of_ble_eq_true rfl⟩ ⟨Nat.le_of_ble_eq_true rfl, Nat.le_of_ble_eq_true rfl⟩ dX4_lastText_2 ?_
          refine lv_astore (lv' := [(4, .ref (ad (21 + 3 * t1))), (0, .ref (ad 0)), (1, .int (xI (t1 : Int))), (2, .int (xI (t2 : Int))), (3, .int (xI z3))]) hx hb dX4_lastText_5 hl (by decide) rfl (fun ls hl => ?_)
          refine lv_aload_n hx hb dX4_lastText_7 rfl (lv_at hl 1 rfl) ?_
          refine lv_iload_n hx hb dX4_lastText_8 rfl (lv_at hl 3 rfl) ?_
          refine xv_q (i := 0) (As := [.int (xI (t2 : Int))]) (rest := []) ⟨hx, hb, hml, hown, hts⟩ hl.1 (c_X4_textOf_in l D cA n ad en (by omega) hC t2 (by omega)) k_X4_textOf u_ml_RX4_97 hK hN hP (by omega) hC.1 rfl rfl rfl rfl (Nat.le_of_ble_eq_true rfl) ⟨Nat.le_of_ble_eq_true rfl, Nat.le_of_ble_eq_true rfl⟩ ⟨Nat.le_of_ble_eq_true rfl, Nat.le_of_ble_eq_true rfl⟩ dX4_lastText_9 ?_
          refine lv_astore (lv' := [(5, .ref (ad (21 + 3 * t2))), (4, .ref (ad (21 + 3 * t1))), (0, .ref (ad 0)), (1, .int (xI (t1 : Int))), (2, .int (xI (t2 : Int))), (3, .int (xI z3))]) hx hb dX4_lastText_12 hl (by decide) rfl (fun ls hl => ?_)
          refine lv_aload hx hb dX4_lastText_14 (lv_at hl 1 rfl) ?_
          refine lv_ifnull hx hb dX4_lastText_16 ?_
          refine lv_aload hx hb dX4_lastText_19 (lv_at hl 0 rfl) ?_
          refine lv_ifnonnull (tgt := 28) hx hb dX4_lastText_21 (by decide) ?_
          refine lv_aload hx hb dX4_lastText_28 (lv_at hl 1 rfl) ?_
          refine x_getn (T := TX3) (N := 2) hx hb hts uX3 hown hN hK hP (i := 21 + 3 * t1) (by omega) hT_t1.1 rfl 1 (by decide) (by simp only [xNest, List.mem_cons]; exact Or.inr (Or.inr (Or.inr (Or.inr (Or.inr (Or.inr (Or.inl rfl))))))) rfl dX4_lastText_30 ?_
          refine x_if_ne (tgt := 44) hx hb dX4_lastText_33 (by decide) (by omega) (fun c_33 => ?_) (fun c_33 => absurd c_33 (by omega))
          refine x_sipush hx hb dX4_lastText_44 (by decide +kernel) ?_
          exact xr_i hx hb hrt hlocks ((by unfold am_lastText; simp only [Int.toNat_natCast]; rw [sp_if_f (by omega), sp_if_t (by simp [hS_t1, hS_t2])])) dX4_lastText_47
        · have hT_t1 : XT cA ad en (21 + 3 * t1) none := by have q : XT cA ad en (21 + 3 * t1) (S.2.1 t1) := hC.rt h_t1; rw [hS_t1] at q; exact q
          have hT_t2 : XT cA ad en (21 + 3 * t2) (some r_t2) := by have q : XT cA ad en (21 + 3 * t2) (S.2.1 t2) := hC.rt h_t2; rw [hS_t2] at q; exact q
          have hr_t2 := hT_t2.2
          have hm_t2 := hr_t2.2.2.1
          refine lv_aload_n hx hb dX4_lastText_0 rfl (lv_at hl 0 rfl) ?_
          refine lv_iload_n hx hb dX4_lastText_1 rfl (lv_at hl 1 rfl) ?_
          refine xv_q (i := 0) (As := [.int (xI (t1 : Int))]) (rest := []) ⟨hx, hb, hml, hown, hts⟩ hl.1 (c_X4_textOf_in l D cA n ad en (by omega) hC t1 (by omega)) k_X4_textOf u_ml_RX4_97 hK hN hP (by omega) hC.1 rfl rfl rfl rfl (Nat.le_of_ble_eq_true rfl) ⟨Nat.le_of_ble_eq_true rfl, Nat.le_of_ble_eq_true rfl⟩ ⟨Nat.le_of_ble_eq_true rfl, Nat.le_of_ble_eq_true rfl⟩ dX4_lastText_2 ?_
          refine lv_astore (lv' := [(4, .ref (ad (21 + 3 * t1))), (0, .ref (ad 0)), (1, .int (xI (t1 : Int))), (2, .int (xI (t2 : Int))), (3, .int (xI z3))]) hx hb dX4_lastText_5 hl (by decide) rfl (fun ls hl => ?_)
          refine lv_aload_n hx hb dX4_lastText_7 rfl (lv_at hl 1 rfl) ?_
          refine lv_iload_n hx hb dX4_lastText_8 rfl (lv_at hl 3 rfl) ?_
          refine xv_q (i := 0) (As := [.int (xI (t2 : Int))]) (rest := []) ⟨hx, hb, hml, hown, hts⟩ hl.1 (c_X4_textOf_in l D cA n ad en (by omega) hC t2 (by omega)) k_X4_textOf u_ml_RX4_97 hK hN hP (by omega) hC.1 rfl rfl rfl rfl (Nat.le_of_ble_eq_true rfl) ⟨Nat.le_of_ble_eq_true rfl, Nat.le_of_ble_eq_true rfl⟩ ⟨Nat.le_of_ble_eq_true rfl, Nat.le_of_ble_eq_true rfl⟩ dX4_lastText_9 ?_
          refine lv_astore (lv' := [(5, .ref (ad (21 + 3 * t2))), (4, .ref (ad (21 + 3 * t1))), (0, .ref (ad 0)), (1, .int (xI (t1 : Int))), (2, .int (xI (t2 : Int))), (3, .int (xI z3))]) hx hb dX4_lastText_12 hl (by decide) rfl (fun ls hl => ?_)
          refine lv_aload hx hb dX4_lastText_14 (lv_at hl 1 rfl) ?_
          refine lv_ifnull hx hb dX4_lastText_16 ?_
          refine lv_aload hx hb dX4_lastText_19 (lv_at hl 0 rfl) ?_
          refine lv_ifnonnull (tgt := 28) hx hb dX4_lastText_21 (by decide) ?_
          refine lv_aload hx hb dX4_lastText_28 (lv_at hl 1 rfl) ?_
          refine x_getn (T := TX3) (N := 2) hx hb hts uX3 hown hN hK hP (i := 21 + 3 * t1) (by omega) hT_t1.1 rfl 1 (by decide) (by simp only [xNest, List.mem_cons]; exact Or.inr (Or.inr (Or.inr (Or.inr (Or.inr (Or.inr (Or.inl rfl))))))) rfl dX4_lastText_30 ?_
          refine x_if_ne (tgt := 44) hx hb dX4_lastText_33 (by decide) (by omega) (fun c_33 => ?_) (fun c_33 => absurd c_33 (by omega))
          refine x_sipush hx hb dX4_lastText_44 (by decide +kernel) ?_
          exact xr_i hx hb hrt hlocks ((by unfold am_lastText; simp only [Int.toNat_natCast]; simp only [sp_get_s hS_t2]; rw [sp_if_f (by omega), sp_if_t (by simp [hS_t1, hS_t2])])) dX4_lastText_47
      · have hT_t1 : XT cA ad en (21 + 3 * t1) none := by have q : XT cA ad en (21 + 3 * t1) (S.2.1 t1) := hC.rt h_t1; rw [hS_t1] at q; exact q
        refine lv_aload_n hx hb dX4_lastText_0 rfl (lv_at hl 0 rfl) ?_
        refine lv_iload_n hx hb dX4_lastText_1 rfl (lv_at hl 1 rfl) ?_
        refine xv_q (i := 0) (As := [.int (xI (t1 : Int))]) (rest := []) ⟨hx, hb, hml, hown, hts⟩ hl.1 (c_X4_textOf_in l D cA n ad en (by omega) hC t1 (by omega)) k_X4_textOf u_ml_RX4_97 hK hN hP (by omega) hC.1 rfl rfl rfl rfl (Nat.le_of_ble_eq_true rfl) ⟨Nat.le_of_ble_eq_true rfl, Nat.le_of_ble_eq_true rfl⟩ ⟨Nat.le_of_ble_eq_true rfl, Nat.le_of_ble_eq_true rfl⟩ dX4_lastText_2 ?_
        refine lv_astore (lv' := [(4, .ref (ad (21 + 3 * t1))), (0, .ref (ad 0)), (1, .int (xI (t1 : Int))), (2, .int (xI z2)), (3, .int (xI z3))]) hx hb dX4_lastText_5 hl (by decide) rfl (fun ls hl => ?_)
        refine lv_aload_n hx hb dX4_lastText_7 rfl (lv_at hl 1 rfl) ?_
        refine lv_iload_n hx hb dX4_lastText_8 rfl (lv_at hl 3 rfl) ?_
        refine xv_q (i := 0) (As := [.int (xI z2)]) (rest := []) ⟨hx, hb, hml, hown, hts⟩ hl.1 (c_X4_textOf_out l D cA n ad en (by omega) hC z2 (by omega) (by omega)) k_X4_textOf u_ml_RX4_97 hK hN hP (by omega) hC.1 rfl rfl rfl rfl (Nat.le_of_ble_eq_true rfl) ⟨Nat.le_of_ble_eq_true rfl, Nat.le_of_ble_eq_true rfl⟩ ⟨Nat.le_of_ble_eq_true rfl, Nat.le_of_ble_eq_true rfl⟩ dX4_lastText_9 ?_
        refine lv_astoreN (lv' := [(5, .null), (4, .ref (ad (21 + 3 * t1))), (0, .ref (ad 0)), (1, .int (xI (t1 : Int))), (2, .int (xI z2)), (3, .int (xI z3))]) hx hb dX4_lastText_12 hl (by decide) rfl (fun ls hl => ?_)
        refine lv_aload hx hb dX4_lastText_14 (lv_at hl 1 rfl) ?_
        refine lv_ifnull hx hb dX4_lastText_16 ?_
        refine lv_aloadN hx hb dX4_lastText_19 (lv_at hl 0 rfl) ?_
        refine lv_ifnonnullN hx hb dX4_lastText_21 ?_
        refine x_sipush hx hb dX4_lastText_24 (by decide +kernel) ?_
        exact xr_i hx hb hrt hlocks ((by unfold am_lastText; simp only [Int.toNat_natCast]; rw [sp_if_t (by omega)])) dX4_lastText_27
    · rcases Classical.em (0 ≤ z2 ∧ z2 < 8) with hx_z2 | hx_z2
      · obtain ⟨t2, rfl⟩ : ∃ q : Nat, z2 = (q : Int) := ⟨z2.toNat, by omega⟩
        have h_t2 : t2 < 8 := by omega
        rcases hS_t2 : S.2.1 t2 with _ | r_t2
        · have hT_t1 : XT cA ad en (21 + 3 * t1) (some r_t1) := by have q : XT cA ad en (21 + 3 * t1) (S.2.1 t1) := hC.rt h_t1; rw [hS_t1] at q; exact q
          have hr_t1 := hT_t1.2
          have hm_t1 := hr_t1.2.2.1
          have hT_t2 : XT cA ad en (21 + 3 * t2) none := by have q : XT cA ad en (21 + 3 * t2) (S.2.1 t2) := hC.rt h_t2; rw [hS_t2] at q; exact q
          refine lv_aload_n hx hb dX4_lastText_0 rfl (lv_at hl 0 rfl) ?_
          refine lv_iload_n hx hb dX4_lastText_1 rfl (lv_at hl 1 rfl) ?_
          refine xv_q (i := 0) (As := [.int (xI (t1 : Int))]) (rest := []) ⟨hx, hb, hml, hown, hts⟩ hl.1 (c_X4_textOf_in l D cA n ad en (by omega) hC t1 (by omega)) k_X4_textOf u_ml_RX4_97 hK hN hP (by omega) hC.1 rfl rfl rfl rfl (Nat.le_of_ble_eq_true rfl) ⟨Nat.le_of_ble_eq_true rfl, Nat.le_of_ble_eq_true rfl⟩ ⟨Nat.le_of_ble_eq_true rfl, Nat.le_of_ble_eq_true rfl⟩ dX4_lastText_2 ?_
          refine lv_astore (lv' := [(4, .ref (ad (21 + 3 * t1))), (0, .ref (ad 0)), (1, .int (xI (t1 : Int))), (2, .int (xI (t2 : Int))), (3, .int (xI z3))]) hx hb dX4_lastText_5 hl (by decide) rfl (fun ls hl => ?_)
          refine lv_aload_n hx hb dX4_lastText_7 rfl (lv_at hl 1 rfl) ?_
          refine lv_iload_n hx hb dX4_lastText_8 rfl (lv_at hl 3 rfl) ?_
          refine xv_q (i := 0) (As := [.int (xI (t2 : Int))]) (rest := []) ⟨hx, hb, hml, hown, hts⟩ hl.1 (c_X4_textOf_in l D cA n ad en (by omega) hC t2 (by omega)) k_X4_textOf u_ml_RX4_97 hK hN hP (by omega) hC.1 rfl rfl rfl rfl (Nat.le_of_ble_eq_true rfl) ⟨Nat.le_of_ble_eq_true rfl, Nat.le_of_ble_eq_true rfl⟩ ⟨Nat.le_of_ble_eq_true rfl, Nat.le_of_ble_eq_true rfl⟩ dX4_lastText_9 ?_
          refine lv_astore (lv' := [(5, .ref (ad (21 + 3 * t2))), (4, .ref (ad (21 + 3 * t1))), (0, .ref (ad 0)), (1, .int (xI (t1 : Int))), (2, .int (xI (t2 : Int))), (3, .int (xI z3))]) hx hb dX4_lastText_12 hl (by decide) rfl (fun ls hl => ?_)
          refine lv_aload hx hb dX4_lastText_14 (lv_at hl 1 rfl) ?_
          refine lv_ifnull hx hb dX4_lastText_16 ?_
          refine lv_aload hx hb dX4_lastText_19 (lv_at hl 0 rfl) ?_
          refine lv_ifnonnull (tgt := 28) hx hb dX4_lastText_21 (by decide) ?_
          refine lv_aload hx hb dX4_lastText_28 (lv_at hl 1 rfl) ?_
          refine x_getn (T := TX3) (N := 2) hx hb hts uX3 hown hN hK hP (i := 21 + 3 * t1) (by omega) hT_t1.1 rfl 1 (by decide) (by simp only [xNest, List.mem_cons]; exact Or.inr (Or.inr (Or.inr (Or.inr (Or.inr (Or.inr (Or.inl rfl))))))) rfl dX4_lastText_30 ?_
          refine x_if_ne (tgt := 44) hx hb dX4_lastText_33 (by decide) (by omega) (fun c_33 => absurd c_33 (by omega)) (fun c_33 => ?_)
          refine lv_aload hx hb dX4_lastText_36 (lv_at hl 0 rfl) ?_
          refine x_getn (T := TX3) (N := 2) hx hb hts uX3 hown hN hK hP (i := 21 + 3 * t2) (by omega) hT_t2.1 rfl 1 (by decide) (by simp only [xNest, List.mem_cons]; exact Or.inr (Or.inr (Or.inr (Or.inr (Or.inr (Or.inr (Or.inl rfl))))))) rfl dX4_lastText_38 ?_
          refine x_if_eq (tgt := 48) hx hb dX4_lastText_41 (by decide) (by omega) (fun c_41 => absurd c_41 (by omega)) (fun c_41 => ?_)
          refine x_sipush hx hb dX4_lastText_44 (by decide +kernel) ?_
          exact xr_i hx hb hrt hlocks ((by unfold am_lastText; simp only [Int.toNat_natCast]; simp only [sp_get_s hS_t1]; rw [sp_if_f (by omega), sp_if_t (by simp [hS_t1, hS_t2])])) dX4_lastText_47
        · have hT_t1 : XT cA ad en (21 + 3 * t1) (some r_t1) := by have q : XT cA ad en (21 + 3 * t1) (S.2.1 t1) := hC.rt h_t1; rw [hS_t1] at q; exact q
          have hr_t1 := hT_t1.2
          have hm_t1 := hr_t1.2.2.1
          have hT_t2 : XT cA ad en (21 + 3 * t2) (some r_t2) := by have q : XT cA ad en (21 + 3 * t2) (S.2.1 t2) := hC.rt h_t2; rw [hS_t2] at q; exact q
          have hr_t2 := hT_t2.2
          have hm_t2 := hr_t2.2.2.1
          refine lv_aload_n hx hb dX4_lastText_0 rfl (lv_at hl 0 rfl) ?_
          refine lv_iload_n hx hb dX4_lastText_1 rfl (lv_at hl 1 rfl) ?_
          refine xv_q (i := 0) (As := [.int (xI (t1 : Int))]) (rest := []) ⟨hx, hb, hml, hown, hts⟩ hl.1 (c_X4_textOf_in l D cA n ad en (by omega) hC t1 (by omega)) k_X4_textOf u_ml_RX4_97 hK hN hP (by omega) hC.1 rfl rfl rfl rfl (Nat.le_of_ble_eq_true rfl) ⟨Nat.le_of_ble_eq_true rfl, Nat.le_of_ble_eq_true rfl⟩ ⟨Nat.le_of_ble_eq_true rfl, Nat.le_of_ble_eq_true rfl⟩ dX4_lastText_2 ?_
          refine lv_astore (lv' := [(4, .ref (ad (21 + 3 * t1))), (0, .ref (ad 0)), (1, .int (xI (t1 : Int))), (2, .int (xI (t2 : Int))), (3, .int (xI z3))]) hx hb dX4_lastText_5 hl (by decide) rfl (fun ls hl => ?_)
          refine lv_aload_n hx hb dX4_lastText_7 rfl (lv_at hl 1 rfl) ?_
          refine lv_iload_n hx hb dX4_lastText_8 rfl (lv_at hl 3 rfl) ?_
          refine xv_q (i := 0) (As := [.int (xI (t2 : Int))]) (rest := []) ⟨hx, hb, hml, hown, hts⟩ hl.1 (c_X4_textOf_in l D cA n ad en (by omega) hC t2 (by omega)) k_X4_textOf u_ml_RX4_97 hK hN hP (by omega) hC.1 rfl rfl rfl rfl (Nat.le_of_ble_eq_true rfl) ⟨Nat.le_of_ble_eq_true rfl, Nat.le_of_ble_eq_true rfl⟩ ⟨Nat.le_of_ble_eq_true rfl, Nat.le_of_ble_eq_true rfl⟩ dX4_lastText_9 ?_
          refine lv_astore (lv' := [(5, .ref (ad (21 + 3 * t2))), (4, .ref (ad (21 + 3 * t1))), (0, .ref (ad 0)), (1, .int (xI (t1 : Int))), (2, .int (xI (t2 : Int))), (3, .int (xI z3))]) hx hb dX4_lastText_12 hl (by decide) rfl (fun ls hl => ?_)
          refine lv_aload hx hb dX4_lastText_14 (lv_at hl 1 rfl) ?_
          refine lv_ifnull hx hb dX4_lastText_16 ?_
          refine lv_aload hx hb dX4_lastText_19 (lv_at hl 0 rfl) ?_
          refine lv_ifnonnull (tgt := 28) hx hb dX4_lastText_21 (by decide) ?_
          refine lv_aload hx hb dX4_lastText_28 (lv_at hl 1 rfl) ?_
          refine x_getn (T := TX3) (N := 2) hx hb hts uX3 hown hN hK hP (i := 21 + 3 * t1) (by omega) hT_t1.1 rfl 1 (by decide) (by simp only [xNest, List.mem_cons]; exact Or.inr (Or.inr (Or.inr (Or.inr (Or.inr (Or.inr (Or.inl rfl))))))) rfl dX4_lastText_30 ?_
          refine x_if_ne (tgt := 44) hx hb dX4_lastText_33 (by decide) (by omega) (fun c_33 => absurd c_33 (by omega)) (fun c_33 => ?_)
          refine lv_aload hx hb dX4_lastText_36 (lv_at hl 0 rfl) ?_
          refine x_getn (T := TX3) (N := 2) hx hb hts uX3 hown hN hK hP (i := 21 + 3 * t2) (by omega) hT_t2.1 rfl 1 (by decide) (by simp only [xNest, List.mem_cons]; exact Or.inr (Or.inr (Or.inr (Or.inr (Or.inr (Or.inr (Or.inl rfl))))))) rfl dX4_lastText_38 ?_
          refine x_if_eq (tgt := 48) hx hb dX4_lastText_41 (by decide) (by omega) (fun c_41 => ?_) (fun c_41 => absurd c_41 (by omega))
          refine lv_aload hx hb dX4_lastText_48 (lv_at hl 1 rfl) ?_
          refine x_getn (T := TX3) (N := 2) hx hb hts uX3 hown hN hK hP (i := 21 + 3 * t1) (by omega) hT_t1.1 rfl 0 (by decide) (by simp only [xNest, List.mem_cons]; exact Or.inr (Or.inr (Or.inr (Or.inr (Or.inr (Or.inl rfl)))))) rfl dX4_lastText_50 ?_
          refine lv_aload hx hb dX4_lastText_53 (lv_at hl 0 rfl) ?_
          refine x_getn (T := TX3) (N := 2) hx hb hts uX3 hown hN hK hP (i := 21 + 3 * t2) (by omega) hT_t2.1 rfl 0 (by decide) (by simp only [xNest, List.mem_cons]; exact Or.inr (Or.inr (Or.inr (Or.inr (Or.inr (Or.inl rfl)))))) rfl dX4_lastText_55 ?_
          refine lv_iload_n hx hb dX4_lastText_58 rfl (lv_at hl 5 rfl) ?_
          refine xv_i (i := 21 + 3 * t1 + 1) (As := [.ref (ad (21 + 3 * t2 + 1)), .int (xI z3)]) (rest := []) ⟨hx, hb, hml, hown, hts⟩ hl.1 (c_X2_findBackward l D cA n ad en (by omega) hr_t1 (by omega) hr_t2 z3 (by omega)) k_X2_findBackward u_ml_RX4_126 hK hN hP (by omega) hr_t1.1 rfl rfl rfl rfl (Nat.le_of_ble_eq_true rfl) ⟨Nat.le_of_ble_eq_true rfl, Nat.le_of_ble_eq_true rfl⟩ ⟨Nat.le_of_ble_eq_true rfl, Nat.le_of_ble_eq_true rfl⟩ dX4_lastText_59 ?_
          exact xr_i hx hb hrt hlocks ((by unfold am_lastText; simp only [Int.toNat_natCast]; simp only [sp_get_s hS_t1, sp_get_s hS_t2]; rw [sp_if_f (by omega), sp_if_f (by simp [hS_t1, hS_t2])])) dX4_lastText_62
      · have hT_t1 : XT cA ad en (21 + 3 * t1) (some r_t1) := by have q : XT cA ad en (21 + 3 * t1) (S.2.1 t1) := hC.rt h_t1; rw [hS_t1] at q; exact q
        have hr_t1 := hT_t1.2
        have hm_t1 := hr_t1.2.2.1
        refine lv_aload_n hx hb dX4_lastText_0 rfl (lv_at hl 0 rfl) ?_
        refine lv_iload_n hx hb dX4_lastText_1 rfl (lv_at hl 1 rfl) ?_
        refine xv_q (i := 0) (As := [.int (xI (t1 : Int))]) (rest := []) ⟨hx, hb, hml, hown, hts⟩ hl.1 (c_X4_textOf_in l D cA n ad en (by omega) hC t1 (by omega)) k_X4_textOf u_ml_RX4_97 hK hN hP (by omega) hC.1 rfl rfl rfl rfl (Nat.le_of_ble_eq_true rfl) ⟨Nat.le_of_ble_eq_true rfl, Nat.le_of_ble_eq_true rfl⟩ ⟨Nat.le_of_ble_eq_true rfl, Nat.le_of_ble_eq_true rfl⟩ dX4_lastText_2 ?_
        refine lv_astore (lv' := [(4, .ref (ad (21 + 3 * t1))), (0, .ref (ad 0)), (1, .int (xI (t1 : Int))), (2, .int (xI z2)), (3, .int (xI z3))]) hx hb dX4_lastText_5 hl (by decide) rfl (fun ls hl => ?_)
        refine lv_aload_n hx hb dX4_lastText_7 rfl (lv_at hl 1 rfl) ?_
        refine lv_iload_n hx hb dX4_lastText_8 rfl (lv_at hl 3 rfl) ?_
        refine xv_q (i := 0) (As := [.int (xI z2)]) (rest := []) ⟨hx, hb, hml, hown, hts⟩ hl.1 (c_X4_textOf_out l D cA n ad en (by omega) hC z2 (by omega) (by omega)) k_X4_textOf u_ml_RX4_97 hK hN hP (by omega) hC.1 rfl rfl rfl rfl (Nat.le_of_ble_eq_true rfl) ⟨Nat.le_of_ble_eq_true rfl, Nat.le_of_ble_eq_true rfl⟩ ⟨Nat.le_of_ble_eq_true rfl, Nat.le_of_ble_eq_true rfl⟩ dX4_lastText_9 ?_
        refine lv_astoreN (lv' := [(5, .null), (4, .ref (ad (21 + 3 * t1))), (0, .ref (ad 0)), (1, .int (xI (t1 : Int))), (2, .int (xI z2)), (3, .int (xI z3))]) hx hb dX4_lastText_12 hl (by decide) rfl (fun ls hl => ?_)
        refine lv_aload hx hb dX4_lastText_14 (lv_at hl 1 rfl) ?_
        refine lv_ifnull hx hb dX4_lastText_16 ?_
        refine lv_aloadN hx hb dX4_lastText_19 (lv_at hl 0 rfl) ?_
        refine lv_ifnonnullN hx hb dX4_lastText_21 ?_
        refine x_sipush hx hb dX4_lastText_24 (by decide +kernel) ?_
        exact xr_i hx hb hrt hlocks ((by unfold am_lastText; simp only [Int.toNat_natCast]; simp only [sp_get_s hS_t1]; rw [sp_if_t (by omega)])) dX4_lastText_27
  · rcases Classical.em (0 ≤ z2 ∧ z2 < 8) with hx_z2 | hx_z2
    · obtain ⟨t2, rfl⟩ : ∃ q : Nat, z2 = (q : Int) := ⟨z2.toNat, by omega⟩
      have h_t2 : t2 < 8 := by omega
      rcases hS_t2 : S.2.1 t2 with _ | r_t2
      · have hT_t2 : XT cA ad en (21 + 3 * t2) none := by have q : XT cA ad en (21 + 3 * t2) (S.2.1 t2) := hC.rt h_t2; rw [hS_t2] at q; exact q
        refine lv_aload_n hx hb dX4_lastText_0 rfl (lv_at hl 0 rfl) ?_
        refine lv_iload_n hx hb dX4_lastText_1 rfl (lv_at hl 1 rfl) ?_
        refine xv_q (i := 0) (As := [.int (xI z1)]) (rest := []) ⟨hx, hb, hml, hown, hts⟩ hl.1 (c_X4_textOf_out l D cA n ad en (by omega) hC z1 (by omega) (by omega)) k_X4_textOf u_ml_RX4_97 hK hN hP (by omega) hC.1 rfl rfl rfl rfl (Nat.le_of_ble_eq_true rfl) ⟨Nat.le_of_ble_eq_true rfl, Nat.le_of_ble_eq_true rfl⟩ ⟨Nat.le_of_ble_eq_true rfl, Nat.le_of_ble_eq_true rfl⟩ dX4_lastText_2 ?_
        refine lv_astoreN (lv' := [(4, .null), (0, .ref (ad 0)), (1, .int (xI z1)), (2, .int (xI (t2 : Int))), (3, .int (xI z3))]) hx hb dX4_lastText_5 hl (by decide) rfl (fun ls hl => ?_)
        refine lv_aload_n hx hb dX4_lastText_7 rfl (lv_at hl 1 rfl) ?_
        refine lv_iload_n hx hb dX4_lastText_8 rfl (lv_at hl 3 rfl) ?_
        refine xv_q (i := 0) (As := [.int (xI (t2 : Int))]) (rest := []) ⟨hx, hb, hml, hown, hts⟩ hl.1 (c_X4_textOf_in l D cA n ad en (by omega) hC t2 (by omega)) k_X4_textOf u_ml_RX4_97 hK hN hP (by omega) hC.1 rfl rfl rfl rfl (Nat.le_of_ble_eq_true rfl) ⟨Nat.le_of_ble_eq_true rfl, Nat.le_of_ble_eq_true rfl⟩ ⟨Nat.le_of_ble_eq_true rfl, Nat.le_of_ble_eq_true rfl⟩ dX4_lastText_9 ?_
        refine lv_astore (lv' := [(5, .ref (ad (21 + 3 * t2))), (4, .null), (0, .ref (ad 0)), (1, .int (xI z1)), (2, .int (xI (t2 : Int))), (3, .int (xI z3))]) hx hb dX4_lastText_12 hl (by decide) rfl (fun ls hl => ?_)
        refine lv_aloadN hx hb dX4_lastText_14 (lv_at hl 1 rfl) ?_
        refine lv_ifnullN (tgt := 24) hx hb dX4_lastText_16 (by decide) ?_
        refine x_sipush hx hb dX4_lastText_24 (by decide +kernel) ?_
        exact xr_i hx hb hrt hlocks ((by unfold am_lastText; simp only [Int.toNat_natCast]; rw [sp_if_t (by omega)])) dX4_lastText_27
      · have hT_t2 : XT cA ad en (21 + 3 * t2) (some r_t2) := by have q : XT cA ad en (21 + 3 * t2) (S.2.1 t2) := hC.rt h_t2; rw [hS_t2] at q; exact q
        have hr_t2 := hT_t2.2
        have hm_t2 := hr_t2.2.2.1
        refine lv_aload_n hx hb dX4_lastText_0 rfl (lv_at hl 0 rfl) ?_
        refine lv_iload_n hx hb dX4_lastText_1 rfl (lv_at hl 1 rfl) ?_
        refine xv_q (i := 0) (As := [.int (xI z1)]) (rest := []) ⟨hx, hb, hml, hown, hts⟩ hl.1 (c_X4_textOf_out l D cA n ad en (by omega) hC z1 (by omega) (by omega)) k_X4_textOf u_ml_RX4_97 hK hN hP (by omega) hC.1 rfl rfl rfl rfl (Nat.le_of_ble_eq_true rfl) ⟨Nat.le_of_ble_eq_true rfl, Nat.le_of_ble_eq_true rfl⟩ ⟨Nat.le_of_ble_eq_true rfl, Nat.le_of_ble_eq_true rfl⟩ dX4_lastText_2 ?_
        refine lv_astoreN (lv' := [(4, .null), (0, .ref (ad 0)), (1, .int (xI z1)), (2, .int (xI (t2 : Int))), (3, .int (xI z3))]) hx hb dX4_lastText_5 hl (by decide) rfl (fun ls hl => ?_)
        refine lv_aload_n hx hb dX4_lastText_7 rfl (lv_at hl 1 rfl) ?_
        refine lv_iload_n hx hb dX4_lastText_8 rfl (lv_at hl 3 rfl) ?_
        refine xv_q (i := 0) (As := [.int (xI (t2 : Int))]) (rest := []) ⟨hx, hb, hml, hown, hts⟩ hl.1 (c_X4_textOf_in l D cA n ad en (by omega) hC t2 (by omega)) k_X4_textOf u_ml_RX4_97 hK hN hP (by omega) hC.1 rfl rfl rfl rfl (Nat.le_of_ble_eq_true rfl) ⟨Nat.le_of_ble_eq_true rfl, Nat.le_of_ble_eq_true rfl⟩ ⟨Nat.le_of_ble_eq_true rfl, Nat.le_of_ble_eq_true rfl⟩ dX4_lastText_9 ?_
        refine lv_astore (lv' := [(5, .ref (ad (21 + 3 * t2))), (4, .null), (0, .ref (ad 0)), (1, .int (xI z1)), (2, .int (xI (t2 : Int))), (3, .int (xI z3))]) hx hb dX4_lastText_12 hl (by decide) rfl (fun ls hl => ?_)
        refine lv_aloadN hx hb dX4_lastText_14 (lv_at hl 1 rfl) ?_
        refine lv_ifnullN (tgt := 24) hx hb dX4_lastText_16 (by decide) ?_
        refine x_sipush hx hb dX4_lastText_24 (by decide +kernel) ?_
        exact xr_i hx hb hrt hlocks ((by unfold am_lastText; simp only [Int.toNat_natCast]; simp only [sp_get_s hS_t2]; rw [sp_if_t (by omega)])) dX4_lastText_27
    · refine lv_aload_n hx hb dX4_lastText_0 rfl (lv_at hl 0 rfl) ?_
      refine lv_iload_n hx hb dX4_lastText_1 rfl (lv_at hl 1 rfl) ?_
      refine xv_q (i := 0) (As := [.int (xI z1)]) (rest := []) ⟨hx, hb, hml, hown, hts⟩ hl.1 (c_X4_textOf_out l D cA n ad en (by omega) hC z1 (by omega) (by omega)) k_X4_textOf u_ml_RX4_97 hK hN hP (by omega) hC.1 rfl rfl rfl rfl (Nat.le_of_ble_eq_true rfl) ⟨Nat.le_of_ble_eq_true rfl, Nat.le_of_ble_eq_true rfl⟩ ⟨Nat.le_of_ble_eq_true rfl, Nat.le_of_ble_eq_true rfl⟩ dX4_lastText_2 ?_
      refine lv_astoreN (lv' := [(4, .null), (0, .ref (ad 0)), (1, .int (xI z1)), (2, .int (xI z2)), (3, .int (xI z3))]) hx hb dX4_lastText_5 hl (by decide) rfl (fun ls hl => ?_)
      refine lv_aload_n hx hb dX4_lastText_7 rfl (lv_at hl 1 rfl) ?_
      refine lv_iload_n hx hb dX4_lastText_8 rfl (lv_at hl 3 rfl) ?_
      refine xv_q (i := 0) (As := [.int (xI z2)]) (rest := []) ⟨hx, hb, hml, hown, hts⟩ hl.1 (c_X4_textOf_out l D cA n ad en (by omega) hC z2 (by omega) (by omega)) k_X4_textOf u_ml_RX4_97 hK hN hP (by omega) hC.1 rfl rfl rfl rfl (Nat.le_of_ble_eq_true rfl) ⟨Nat.le_of_ble_eq_true rfl, Nat.le_of_ble_eq_true rfl⟩ ⟨Nat.le_of_ble_eq_true rfl, Nat.le_of_ble_eq_true rfl⟩ dX4_lastText_9 ?_
      refine lv_astoreN (lv' := [(5, .null), (4, .null), (0, .ref (ad 0)), (1, .int (xI z1)), (2, .int (xI z2)), (3, .int (xI z3))]) hx hb dX4_lastText_12 hl (by decide) rfl (fun ls hl => ?_)
      refine lv_aloadN hx hb dX4_lastText_14 (lv_at hl 1 rfl) ?_
      refine lv_ifnullN (tgt := 24) hx hb dX4_lastText_16 (by decide) ?_
      refine x_sipush hx hb dX4_lastText_24 (by decide +kernel) ?_
      exact xr_i hx hb hrt hlocks ((by unfold am_lastText; rw [sp_if_t (by omega)])) dX4_lastText_27

set_option maxRecDepth 20000 in
theorem c_X4_region (l : Launch) (D : va_G) (cA : Nat → ClassId) (n : Nat) (ad : Nat → Nat) (en : Nat → va_E) (hn : 53 ≤ n) {S : xSt} (hC : CW cA ad en S) (z1 : Int) (hz1 : -2147483648 ≤ z1 ∧ z1 ≤ 2147483647) (z2 : Int) (hz2 : -2147483648 ≤ z2 ∧ z2 ≤ 2147483647) (z3 : Int) (hz3 : -2147483648 ≤ z3 ∧ z3 ≤ 2147483647) (z4 : Int) (hz4 : -2147483648 ≤ z4 ∧ z4 ≤ 2147483647) (z5 : Int) (hz5 : -2147483648 ≤ z5 ∧ z5 ≤ 2147483647) : Met l yX4_region (Cond.code yX4_region cX4_region 8 (some .int) :: xU) (xrm 3 67) (va_Pc [.ref (ad 0), .int (xI z1), .int (xI z2), .int (xI z3), .int (xI z4), .int (xI z5)] (xB D cA n ad en)) (vp_Si (fun z => z = xI (am_region S z1 z2 z3 z4 z5))) 0 0 (fun _ => False) := by
  refine xmet (by decide) (Nat.le_of_ble_eq_true rfl) (fun p e s mm args below meth c ls hx hb hrt hml hown hts hlocks hname hB hl => ?_)
  obtain ⟨hP, hK, hN⟩ := hB
  have hl : lv_has ls 8 [(0, .ref (ad 0)), (1, .int (xI z1)), (2, .int (xI z2)), (3, .int (xI z3)), (4, .int (xI z4)), (5, .int (xI z5))] := hl
  rcases Classical.em (0 ≤ z1 ∧ z1 < 8) with hx_z1 | hx_z1
  · obtain ⟨t1, rfl⟩ : ∃ q : Nat, z1 = (q : Int) := ⟨z1.toNat, by omega⟩
    have h_t1 : t1 < 8 := by omega
    rcases hS_t1 : S.2.1 t1 with _ | r_t1
    · rcases Classical.em (0 ≤ z3 ∧ z3 < 8) with hx_z3 | hx_z3
      · obtain ⟨t3, rfl⟩ : ∃ q : Nat, z3 = (q : Int) := ⟨z3.toNat, by omega⟩
        have h_t3 : t3 < 8 := by omega
        rcases hS_t3 : S.2.1 t3 with _ | r_t3
        · have hT_t1 : XT cA ad en (21 + 3 * t1) none := by have q : XT cA ad en (21 + 3 * t1) (S.2.1 t1) := hC.rt h_t1; rw [hS_t1] at q; exact q
          have hT_t3 : XT cA ad en (21 + 3 * t3) none := by have q : XT cA ad en (21 + 3 * t3) (S.2.1 t3) := hC.rt h_t3; rw [hS_t3] at q; exact q
          refine lv_aload_n hx hb dX4_region_0 rfl (lv_at hl 0 rfl) ?_
          refine lv_iload_n hx hb dX4_region_1 rfl (lv_at hl 1 rfl) ?_
          refine xv_q (i := 0) (As := [.int (xI (t1 : Int))]) (rest := []) ⟨hx, hb, hml, hown, hts⟩ hl.1 (c_X4_textOf_in l D cA n ad en (by omega) hC t1 (by omega)) k_X4_textOf u_ml_RX4_97 hK hN hP (by omega) hC.1 rfl rfl rfl rfl (Nat.le_of_ble_eq_true rfl) ⟨Nat.le_of_ble_eq_true rfl, Nat.le_of_ble_eq_true rfl⟩ ⟨Nat.le_of_ble_eq_true rfl, Nat.le_of_ble_eq_true rfl⟩ dX4_region_2 ?_
          refine lv_astore (lv' := [(6, .ref (ad (21 + 3 * t1))), (0, .ref (ad 0)), (1, .int (xI (t1 : Int))), (2, .int (xI z2)), (3, .int (xI (t3 : Int))), (4, .int (xI z4)), (5, .int (xI z5))]) hx hb dX4_region_5 hl (by decide) rfl (fun ls hl => ?_)
          refine lv_aload_n hx hb dX4_region_7 rfl (lv_at hl 1 rfl) ?_
          refine lv_iload_n hx hb dX4_region_8 rfl (lv_at hl 4 rfl) ?_
          refine xv_q (i := 0) (As := [.int (xI (t3 : Int))]) (rest := []) ⟨hx, hb, hml, hown, hts⟩ hl.1 (c_X4_textOf_in l D cA n ad en (by omega) hC t3 (by omega)) k_X4_textOf u_ml_RX4_97 hK hN hP (by omega) hC.1 rfl rfl rfl rfl (Nat.le_of_ble_eq_true rfl) ⟨Nat.le_of_ble_eq_true rfl, Nat.le_of_ble_eq_true rfl⟩ ⟨Nat.le_of_ble_eq_true rfl, Nat.le_of_ble_eq_true rfl⟩ dX4_region_9 ?_
          refine lv_astore (lv' := [(7, .ref (ad (21 + 3 * t3))), (6, .ref (ad (21 + 3 * t1))), (0, .ref (ad 0)), (1, .int (xI (t1 : Int))), (2, .int (xI z2)), (3, .int (xI (t3 : Int))), (4, .int (xI z4)), (5, .int (xI z5))]) hx hb dX4_region_12 hl (by decide) rfl (fun ls hl => ?_)
          refine lv_aload hx hb dX4_region_14 (lv_at hl 1 rfl) ?_
          refine lv_ifnull hx hb dX4_region_16 ?_
          refine lv_aload hx hb dX4_region_19 (lv_at hl 0 rfl) ?_
          refine lv_ifnonnull (tgt := 28) hx hb dX4_region_21 (by decide) ?_
          refine lv_aload hx hb dX4_region_28 (lv_at hl 1 rfl) ?_
          refine x_getn (T := TX3) (N := 2) hx hb hts uX3 hown hN hK hP (i := 21 + 3 * t1) (by omega) hT_t1.1 rfl 1 (by decide) (by simp only [xNest, List.mem_cons]; exact Or.inr (Or.inr (Or.inr (Or.inr (Or.inr (Or.inr (Or.inl rfl))))))) rfl dX4_region_30 ?_
          refine x_if_ne (tgt := 44) hx hb dX4_region_33 (by decide) (by omega) (fun c_33 => ?_) (fun c_33 => absurd c_33 (by omega))
          refine x_sipush hx hb dX4_region_44 (by decide +kernel) ?_
          exact xr_i hx hb hrt hlocks ((by unfold am_region; simp only [Int.toNat_natCast]; rw [sp_if_f (by omega), sp_if_t (by simp [hS_t1, hS_t3])])) dX4_region_47
        · have hT_t1 : XT cA ad en (21 + 3 * t1) none := by have q : XT cA ad en (21 + 3 * t1) (S.2.1 t1) := hC.rt h_t1; rw [hS_t1] at q; exact q
          have hT_t3 : XT cA ad en (21 + 3 * t3) (some r_t3) := by have q : XT cA ad en (21 + 3 * t3) (S.2.1 t3) := hC.rt h_t3; rw [hS_t3] at q; exact q
          have hr_t3 := hT_t3.2
          have hm_t3 := hr_t3.2.2.1
          refine lv_aload_n hx hb dX4_region_0 rfl (lv_at hl 0 rfl) ?_
          refine lv_iload_n hx hb dX4_region_1 rfl (lv_at hl 1 rfl) ?_
          refine xv_q (i := 0) (As := [.int (xI (t1 : Int))]) (rest := []) ⟨hx, hb, hml, hown, hts⟩ hl.1 (c_X4_textOf_in l D cA n ad en (by omega) hC t1 (by omega)) k_X4_textOf u_ml_RX4_97 hK hN hP (by omega) hC.1 rfl rfl rfl rfl (Nat.le_of_ble_eq_true rfl) ⟨Nat.le_of_ble_eq_true rfl, Nat.le_of_ble_eq_true rfl⟩ ⟨Nat.le_of_ble_eq_true rfl, Nat.le_of_ble_eq_true rfl⟩ dX4_region_2 ?_
          refine lv_astore (lv' := [(6, .ref (ad (21 + 3 * t1))), (0, .ref (ad 0)), (1, .int (xI (t1 : Int))), (2, .int (xI z2)), (3, .int (xI (t3 : Int))), (4, .int (xI z4)), (5, .int (xI z5))]) hx hb dX4_region_5 hl (by decide) rfl (fun ls hl => ?_)
          refine lv_aload_n hx hb dX4_region_7 rfl (lv_at hl 1 rfl) ?_
          refine lv_iload_n hx hb dX4_region_8 rfl (lv_at hl 4 rfl) ?_
          refine xv_q (i := 0) (As := [.int (xI (t3 : Int))]) (rest := []) ⟨hx, hb, hml, hown, hts⟩ hl.1 (c_X4_textOf_in l D cA n ad en (by omega) hC t3 (by omega)) k_X4_textOf u_ml_RX4_97 hK hN hP (by omega) hC.1 rfl rfl rfl rfl (Nat.le_of_ble_eq_true rfl) ⟨Nat.le_of_ble_eq_true rfl, Nat.le_of_ble_eq_true rfl⟩ ⟨Nat.le_of_ble_eq_true rfl, Nat.le_of_ble_eq_true rfl⟩ dX4_region_9 ?_
          refine lv_astore (lv' := [(7, .ref (ad (21 + 3 * t3))), (6, .ref (ad (21 + 3 * t1))), (0, .ref (ad 0)), (1, .int (xI (t1 : Int))), (2, .int (xI z2)), (3, .int (xI (t3 : Int))), (4, .int (xI z4)), (5, .int (xI z5))]) hx hb dX4_region_12 hl (by decide) rfl (fun ls hl => ?_)
          refine lv_aload hx hb dX4_region_14 (lv_at hl 1 rfl) ?_
          refine lv_ifnull hx hb dX4_region_16 ?_
          refine lv_aload hx hb dX4_region_19 (lv_at hl 0 rfl) ?_
          refine lv_ifnonnull (tgt := 28) hx hb dX4_region_21 (by decide) ?_
          refine lv_aload hx hb dX4_region_28 (lv_at hl 1 rfl) ?_
          refine x_getn (T := TX3) (N := 2) hx hb hts uX3 hown hN hK hP (i := 21 + 3 * t1) (by omega) hT_t1.1 rfl 1 (by decide) (by simp only [xNest, List.mem_cons]; exact Or.inr (Or.inr (Or.inr (Or.inr (Or.inr (Or.inr (Or.inl rfl))))))) rfl dX4_region_30 ?_
          refine x_if_ne (tgt := 44) hx hb dX4_region_33 (by decide) (by omega) (fun c_33 => ?_) (fun c_33 => absurd c_33 (by omega))
          refine x_sipush hx hb dX4_region_44 (by decide +kernel) ?_
          exact xr_i hx hb hrt hlocks ((by unfold am_region; simp only [Int.toNat_natCast]; simp only [sp_get_s hS_t3]; rw [sp_if_f (by omega), sp_if_t (by simp [hS_t1, hS_t3])])) dX4_region_47
      · have hT_t1 : XT cA ad en (21 + 3 * t1) none := by have q : XT cA ad en (21 + 3 * t1) (S.2.1 t1) := hC.rt h_t1; rw [hS_t1] at q; exact q
        refine lv_aload_n hx hb dX4_region_0 rfl (lv_at hl 0 rfl) ?_
        refine lv_iload_n hx hb dX4_region_1 rfl (lv_at hl 1 rfl) ?_
        refine xv_q (i := 0) (As := [.int (xI (t1 : Int))]) (rest := []) ⟨hx, hb, hml, hown, hts⟩ hl.1 (c_X4_textOf_in l D cA n ad en (by omega) hC t1 (by omega)) k_X4_textOf u_ml_RX4_97 hK hN hP (by omega) hC.1 rfl rfl rfl rfl (Nat.le_of_ble_eq_true rfl) ⟨Nat.le_of_ble_eq_true rfl, Nat.le_of_ble_eq_true rfl⟩ ⟨Nat.le_of_ble_eq_true rfl, Nat.le_of_ble_eq_true rfl⟩ dX4_region_2 ?_
        refine lv_astore (lv' := [(6, .ref (ad (21 + 3 * t1))), (0, .ref (ad 0)), (1, .int (xI (t1 : Int))), (2, .int (xI z2)), (3, .int (xI z3)), (4, .int (xI z4)), (5, .int (xI z5))]) hx hb dX4_region_5 hl (by decide) rfl (fun ls hl => ?_)
        refine lv_aload_n hx hb dX4_region_7 rfl (lv_at hl 1 rfl) ?_
        refine lv_iload_n hx hb dX4_region_8 rfl (lv_at hl 4 rfl) ?_
        refine xv_q (i := 0) (As := [.int (xI z3)]) (rest := []) ⟨hx, hb, hml, hown, hts⟩ hl.1 (c_X4_textOf_out l D cA n ad en (by omega) hC z3 (by omega) (by omega)) k_X4_textOf u_ml_RX4_97 hK hN hP (by omega) hC.1 rfl rfl rfl rfl (Nat.le_of_ble_eq_true rfl) ⟨Nat.le_of_ble_eq_true rfl, Nat.le_of_ble_eq_true rfl⟩ ⟨Nat.le_of_ble_eq_true rfl, Nat.le_of_ble_eq_true rfl⟩ dX4_region_9 ?_
        refine lv_astoreN (lv' := [(7, .null), (6, .ref (ad (21 + 3 * t1))), (0, .ref (ad 0)), (1, .int (xI (t1 : Int))), (2, .int (xI z2)), (3, .int (xI z3)), (4, .int (xI z4)), (5, .int (xI z5))]) hx hb dX4_region_12 hl (by decide) rfl (fun ls hl => ?_)
        refine lv_aload hx hb dX4_region_14 (lv_at hl 1 rfl) ?_
        refine lv_ifnull hx hb dX4_region_16 ?_
        refine lv_aloadN hx hb dX4_region_19 (lv_at hl 0 rfl) ?_
        refine lv_ifnonnullN hx hb dX4_region_21 ?_
        refine x_sipush hx hb dX4_region_24 (by decide +kernel) ?_
        exact xr_i hx hb hrt hlocks ((by unfold am_region; simp only [Int.toNat_natCast]; rw [sp_if_t (by omega)])) dX4_region_27
    · rcases Classical.em (0 ≤ z3 ∧ z3 < 8) with hx_z3 | hx_z3
      · obtain ⟨t3, rfl⟩ : ∃ q : Nat, z3 = (q : Int) := ⟨z3.toNat, by omega⟩
        have h_t3 : t3 < 8 := by omega
        rcases hS_t3 : S.2.1 t3 with _ | r_t3
        · have hT_t1 : XT cA ad en (21 + 3 * t1) (some r_t1) := by have q : XT cA ad en (21 + 3 * t1) (S.2.1 t1) := hC.rt h_t1; rw [hS_t1] at q; exact q
          have hr_t1 := hT_t1.2
          have hm_t1 := hr_t1.2.2.1
          have hT_t3 : XT cA ad en (21 + 3 * t3) none := by have q : XT cA ad en (21 + 3 * t3) (S.2.1 t3) := hC.rt h_t3; rw [hS_t3] at q; exact q
          refine lv_aload_n hx hb dX4_region_0 rfl (lv_at hl 0 rfl) ?_
          refine lv_iload_n hx hb dX4_region_1 rfl (lv_at hl 1 rfl) ?_
          refine xv_q (i := 0) (As := [.int (xI (t1 : Int))]) (rest := []) ⟨hx, hb, hml, hown, hts⟩ hl.1 (c_X4_textOf_in l D cA n ad en (by omega) hC t1 (by omega)) k_X4_textOf u_ml_RX4_97 hK hN hP (by omega) hC.1 rfl rfl rfl rfl (Nat.le_of_ble_eq_true rfl) ⟨Nat.le_of_ble_eq_true rfl, Nat.le_of_ble_eq_true rfl⟩ ⟨Nat.le_of_ble_eq_true rfl, Nat.le_of_ble_eq_true rfl⟩ dX4_region_2 ?_
          refine lv_astore (lv' := [(6, .ref (ad (21 + 3 * t1))), (0, .ref (ad 0)), (1, .int (xI (t1 : Int))), (2, .int (xI z2)), (3, .int (xI (t3 : Int))), (4, .int (xI z4)), (5, .int (xI z5))]) hx hb dX4_region_5 hl (by decide) rfl (fun ls hl => ?_)
          refine lv_aload_n hx hb dX4_region_7 rfl (lv_at hl 1 rfl) ?_
          refine lv_iload_n hx hb dX4_region_8 rfl (lv_at hl 4 rfl) ?_
          refine xv_q (i := 0) (As := [.int (xI (t3 : Int))]) (rest := []) ⟨hx, hb, hml, hown, hts⟩ hl.1 (c_X4_textOf_in l D cA n ad en (by omega) hC t3 (by omega)) k_X4_textOf u_ml_RX4_97 hK hN hP (by omega) hC.1 rfl rfl rfl rfl (Nat.le_of_ble_eq_true rfl) ⟨Nat.le_of_ble_eq_true rfl, Nat.le_of_ble_eq_true rfl⟩ ⟨Nat.le_of_ble_eq_true rfl, Nat.le_of_ble_eq_true rfl⟩ dX4_region_9 ?_
          refine lv_astore (lv' := [(7, .ref (ad (21 + 3 * t3))), (6, .ref (ad (21 + 3 * t1))), (0, .ref (ad 0)), (1, .int (xI (t1 : Int))), (2, .int (xI z2)), (3, .int (xI (t3 : Int))), (4, .int (xI z4)), (5, .int (xI z5))]) hx hb dX4_region_12 hl (by decide) rfl (fun ls hl => ?_)
          refine lv_aload hx hb dX4_region_14 (lv_at hl 1 rfl) ?_
          refine lv_ifnull hx hb dX4_region_16 ?_
          refine lv_aload hx hb dX4_region_19 (lv_at hl 0 rfl) ?_
          refine lv_ifnonnull (tgt := 28) hx hb dX4_region_21 (by decide) ?_
          refine lv_aload hx hb dX4_region_28 (lv_at hl 1 rfl) ?_
          refine x_getn (T := TX3) (N := 2) hx hb hts uX3 hown hN hK hP (i := 21 + 3 * t1) (by omega) hT_t1.1 rfl 1 (by decide) (by simp only [xNest, List.mem_cons]; exact Or.inr (Or.inr (Or.inr (Or.inr (Or.inr (Or.inr (Or.inl rfl))))))) rfl dX4_region_30 ?_
          refine x_if_ne (tgt := 44) hx hb dX4_region_33 (by decide) (by omega) (fun c_33 => absurd c_33 (by omega)) (fun c_33 => ?_)
          refine lv_aload hx hb dX4_region_36 (lv_at hl 0 rfl) ?_
          refine x_getn (T := TX3) (N := 2) hx hb hts uX3 hown hN hK hP (i := 21 + 3 * t3) (by omega) hT_t3.1 rfl 1 (by decide) (by simp only [xNest, List.mem_cons]; exact Or.inr (Or.inr (Or.inr (Or.inr (Or.inr (Or.inr (Or.inl rfl))))))) rfl dX4_region_38 ?_
          refine x_if_eq (tgt := 48) hx hb dX4_region_41 (by decide) (by omega) (fun c_41 => absurd c_41 (by omega)) (fun c_41 => ?_)
          refine x_sipush hx hb dX4_region_44 (by decide +kernel) ?_
          exact xr_i hx hb hrt hlocks ((by unfold am_region; simp only [Int.toNat_natCast]; simp only [sp_get_s hS_t1]; rw [sp_if_f (by omega), sp_if_t (by simp [hS_t1, hS_t3])])) dX4_region_47
        · have hT_t1 : XT cA ad en (21 + 3 * t1) (some r_t1) := by have q : XT cA ad en (21 + 3 * t1) (S.2.1 t1) := hC.rt h_t1; rw [hS_t1] at q; exact q
          have hr_t1 := hT_t1.2
          have hm_t1 := hr_t1.2.2.1
          have hT_t3 : XT cA ad en (21 + 3 * t3) (some r_t3) := by have q : XT cA ad en (21 + 3 * t3) (S.2.1 t3) := hC.rt h_t3; rw [hS_t3] at q; exact q
          have hr_t3 := hT_t3.2
          have hm_t3 := hr_t3.2.2.1
          refine lv_aload_n hx hb dX4_region_0 rfl (lv_at hl 0 rfl) ?_
          refine lv_iload_n hx hb dX4_region_1 rfl (lv_at hl 1 rfl) ?_
          refine xv_q (i := 0) (As := [.int (xI (t1 : Int))]) (rest := []) ⟨hx, hb, hml, hown, hts⟩ hl.1 (c_X4_textOf_in l D cA n ad en (by omega) hC t1 (by omega)) k_X4_textOf u_ml_RX4_97 hK hN hP (by omega) hC.1 rfl rfl rfl rfl (Nat.le_of_ble_eq_true rfl) ⟨Nat.le_of_ble_eq_true rfl, Nat.le_of_ble_eq_true rfl⟩ ⟨Nat.le_of_ble_eq_true rfl, Nat.le_of_ble_eq_true rfl⟩ dX4_region_2 ?_
          refine lv_astore (lv' := [(6, .ref (ad (21 + 3 * t1))), (0, .ref (ad 0)), (1, .int (xI (t1 : Int))), (2, .int (xI z2)), (3, .int (xI (t3 : Int))), (4, .int (xI z4)), (5, .int (xI z5))]) hx hb dX4_region_5 hl (by decide) rfl (fun ls hl => ?_)
          refine lv_aload_n hx hb dX4_region_7 rfl (lv_at hl 1 rfl) ?_
          refine lv_iload_n hx hb dX4_region_8 rfl (lv_at hl 4 rfl) ?_
          refine xv_q (i := 0) (As := [.int (xI (t3 : Int))]) (rest := []) ⟨hx, hb, hml, hown, hts⟩ hl.1 (c_X4_textOf_in l D cA n ad en (by omega) hC t3 (by omega)) k_X4_textOf u_ml_RX4_97 hK hN hP (by omega) hC.1 rfl rfl rfl rfl (Nat.le_of_ble_eq_true rfl) ⟨Nat.le_of_ble_eq_true rfl, Nat.le_of_ble_eq_true rfl⟩ ⟨Nat.le_of_ble_eq_true rfl, Nat.le_of_ble_eq_true rfl⟩ dX4_region_9 ?_
          refine lv_astore (lv' := [(7, .ref (ad (21 + 3 * t3))), (6, .ref (ad (21 + 3 * t1))), (0, .ref (ad 0)), (1, .int (xI (t1 : Int))), (2, .int (xI z2)), (3, .int (xI (t3 : Int))), (4, .int (xI z4)), (5, .int (xI z5))]) hx hb dX4_region_12 hl (by decide) rfl (fun ls hl => ?_)
          refine lv_aload hx hb dX4_region_14 (lv_at hl 1 rfl) ?_
          refine lv_ifnull hx hb dX4_region_16 ?_
          refine lv_aload hx hb dX4_region_19 (lv_at hl 0 rfl) ?_
          refine lv_ifnonnull (tgt := 28) hx hb dX4_region_21 (by decide) ?_
          refine lv_aload hx hb dX4_region_28 (lv_at hl 1 rfl) ?_
          refine x_getn (T := TX3) (N := 2) hx hb hts uX3 hown hN hK hP (i := 21 + 3 * t1) (by omega) hT_t1.1 rfl 1 (by decide) (by simp only [xNest, List.mem_cons]; exact Or.inr (Or.inr (Or.inr (Or.inr (Or.inr (Or.inr (Or.inl rfl))))))) rfl dX4_region_30 ?_
          refine x_if_ne (tgt := 44) hx hb dX4_region_33 (by decide) (by omega) (fun c_33 => absurd c_33 (by omega)) (fun c_33 => ?_)
          refine lv_aload hx hb dX4_region_36 (lv_at hl 0 rfl) ?_
          refine x_getn (T := TX3) (N := 2) hx hb hts uX3 hown hN hK hP (i := 21 + 3 * t3) (by omega) hT_t3.1 rfl 1 (by decide) (by simp only [xNest, List.mem_cons]; exact Or.inr (Or.inr (Or.inr (Or.inr (Or.inr (Or.inr (Or.inl rfl))))))) rfl dX4_region_38 ?_
          refine x_if_eq (tgt := 48) hx hb dX4_region_41 (by decide) (by omega) (fun c_41 => ?_) (fun c_41 => absurd c_41 (by omega))
          refine lv_aload hx hb dX4_region_48 (lv_at hl 1 rfl) ?_
          refine x_getn (T := TX3) (N := 2) hx hb hts uX3 hown hN hK hP (i := 21 + 3 * t1) (by omega) hT_t1.1 rfl 0 (by decide) (by simp only [xNest, List.mem_cons]; exact Or.inr (Or.inr (Or.inr (Or.inr (Or.inr (Or.inl rfl)))))) rfl dX4_region_50 ?_
          refine lv_iload_n hx hb dX4_region_53 rfl (lv_at hl 4 rfl) ?_
          refine lv_aload hx hb dX4_region_54 (lv_at hl 0 rfl) ?_
          refine x_getn (T := TX3) (N := 2) hx hb hts uX3 hown hN hK hP (i := 21 + 3 * t3) (by omega) hT_t3.1 rfl 0 (by decide) (by simp only [xNest, List.mem_cons]; exact Or.inr (Or.inr (Or.inr (Or.inr (Or.inr (Or.inl rfl)))))) rfl dX4_region_56 ?_
          refine lv_iload hx hb dX4_region_59 (lv_at hl 6 rfl) ?_
          refine lv_iload hx hb dX4_region_61 (lv_at hl 7 rfl) ?_
          refine xv_i (i := 21 + 3 * t1 + 1) (As := [.int (xI z2), .ref (ad (21 + 3 * t3 + 1)), .int (xI z4), .int (xI z5)]) (rest := []) ⟨hx, hb, hml, hown, hts⟩ hl.1 (c_X2_sameRegion l D cA n ad en (by omega) hr_t1 (by omega) hr_t3 z2 z4 z5 (by omega) (by omega) (by omega)) k_X2_sameRegion u_ml_RX4_149 hK hN hP (by omega) hr_t1.1 rfl rfl rfl rfl (Nat.le_of_ble_eq_true rfl) ⟨Nat.le_of_ble_eq_true rfl, Nat.le_of_ble_eq_true rfl⟩ ⟨Nat.le_of_ble_eq_true rfl, Nat.le_of_ble_eq_true rfl⟩ dX4_region_63 ?_
          refine x_ifb_eq (tgt := 73) hx hb dX4_region_66 (by decide)  (fun c_66 => ?_) (fun c_66 => ?_)
          · refine x_iconst hx hb dX4_region_73 ?_
            exact xr_i hx hb hrt hlocks ((by unfold am_region; simp only [Int.toNat_natCast]; simp only [sp_get_s hS_t1, sp_get_s hS_t3]; rw [sp_if_f (by omega), sp_if_f (by simp [hS_t1, hS_t3])]; rw [xd_f c_66])) dX4_region_74
          · refine x_iconst hx hb dX4_region_69 ?_
            refine lv_goto (tgt := 74) hx hb dX4_region_70 (by decide) ?_
            exact xr_i hx hb hrt hlocks ((by unfold am_region; simp only [Int.toNat_natCast]; simp only [sp_get_s hS_t1, sp_get_s hS_t3]; rw [sp_if_f (by omega), sp_if_f (by simp [hS_t1, hS_t3])]; rw [xd_t c_66])) dX4_region_74
      · have hT_t1 : XT cA ad en (21 + 3 * t1) (some r_t1) := by have q : XT cA ad en (21 + 3 * t1) (S.2.1 t1) := hC.rt h_t1; rw [hS_t1] at q; exact q
        have hr_t1 := hT_t1.2
        have hm_t1 := hr_t1.2.2.1
        refine lv_aload_n hx hb dX4_region_0 rfl (lv_at hl 0 rfl) ?_
        refine lv_iload_n hx hb dX4_region_1 rfl (lv_at hl 1 rfl) ?_
        refine xv_q (i := 0) (As := [.int (xI (t1 : Int))]) (rest := []) ⟨hx, hb, hml, hown, hts⟩ hl.1 (c_X4_textOf_in l D cA n ad en (by omega) hC t1 (by omega)) k_X4_textOf u_ml_RX4_97 hK hN hP (by omega) hC.1 rfl rfl rfl rfl (Nat.le_of_ble_eq_true rfl) ⟨Nat.le_of_ble_eq_true rfl, Nat.le_of_ble_eq_true rfl⟩ ⟨Nat.le_of_ble_eq_true rfl, Nat.le_of_ble_eq_true rfl⟩ dX4_region_2 ?_
        refine lv_astore (lv' := [(6, .ref (ad (21 + 3 * t1))), (0, .ref (ad 0)), (1, .int (xI (t1 : Int))), (2, .int (xI z2)), (3, .int (xI z3)), (4, .int (xI z4)), (5, .int (xI z5))]) hx hb dX4_region_5 hl (by decide) rfl (fun ls hl => ?_)
        refine lv_aload_n hx hb dX4_region_7 rfl (lv_at hl 1 rfl) ?_
        refine lv_iload_n hx hb dX4_region_8 rfl (lv_at hl 4 rfl) ?_
        refine xv_q (i := 0) (As := [.int (xI z3)]) (rest := []) ⟨hx, hb, hml, hown, hts⟩ hl.1 (c_X4_textOf_out l D cA n ad en (by omega) hC z3 (by omega) (by omega)) k_X4_textOf u_ml_RX4_97 hK hN hP (by omega) hC.1 rfl rfl rfl rfl (Nat.le_of_ble_eq_true rfl) ⟨Nat.le_of_ble_eq_true rfl, Nat.le_of_ble_eq_true rfl⟩ ⟨Nat.le_of_ble_eq_true rfl, Nat.le_of_ble_eq_true rfl⟩ dX4_region_9 ?_
        refine lv_astoreN (lv' := [(7, .null), (6, .ref (ad (21 + 3 * t1))), (0, .ref (ad 0)), (1, .int (xI (t1 : Int))), (2, .int (xI z2)), (3, .int (xI z3)), (4, .int (xI z4)), (5, .int (xI z5))]) hx hb dX4_region_12 hl (by decide) rfl (fun ls hl => ?_)
        refine lv_aload hx hb dX4_region_14 (lv_at hl 1 rfl) ?_
        refine lv_ifnull hx hb dX4_region_16 ?_
        refine lv_aloadN hx hb dX4_region_19 (lv_at hl 0 rfl) ?_
        refine lv_ifnonnullN hx hb dX4_region_21 ?_
        refine x_sipush hx hb dX4_region_24 (by decide +kernel) ?_
        exact xr_i hx hb hrt hlocks ((by unfold am_region; simp only [Int.toNat_natCast]; simp only [sp_get_s hS_t1]; rw [sp_if_t (by omega)])) dX4_region_27
  · rcases Classical.em (0 ≤ z3 ∧ z3 < 8) with hx_z3 | hx_z3
    · obtain ⟨t3, rfl⟩ : ∃ q : Nat, z3 = (q : Int) := ⟨z3.toNat, by omega⟩
      have h_t3 : t3 < 8 := by omega
      rcases hS_t3 : S.2.1 t3 with _ | r_t3
      · have hT_t3 : XT cA ad en (21 + 3 * t3) none := by have q : XT cA ad en (21 + 3 * t3) (S.2.1 t3) := hC.rt h_t3; rw [hS_t3] at q; exact q
        refine lv_aload_n hx hb dX4_region_0 rfl (lv_at hl 0 rfl) ?_
        refine lv_iload_n hx hb dX4_region_1 rfl (lv_at hl 1 rfl) ?_
        refine xv_q (i := 0) (As := [.int (xI z1)]) (rest := []) ⟨hx, hb, hml, hown, hts⟩ hl.1 (c_X4_textOf_out l D cA n ad en (by omega) hC z1 (by omega) (by omega)) k_X4_textOf u_ml_RX4_97 hK hN hP (by omega) hC.1 rfl rfl rfl rfl (Nat.le_of_ble_eq_true rfl) ⟨Nat.le_of_ble_eq_true rfl, Nat.le_of_ble_eq_true rfl⟩ ⟨Nat.le_of_ble_eq_true rfl, Nat.le_of_ble_eq_true rfl⟩ dX4_region_2 ?_
        refine lv_astoreN (lv' := [(6, .null), (0, .ref (ad 0)), (1, .int (xI z1)), (2, .int (xI z2)), (3, .int (xI (t3 : Int))), (4, .int (xI z4)), (5, .int (xI z5))]) hx hb dX4_region_5 hl (by decide) rfl (fun ls hl => ?_)
        refine lv_aload_n hx hb dX4_region_7 rfl (lv_at hl 1 rfl) ?_
        refine lv_iload_n hx hb dX4_region_8 rfl (lv_at hl 4 rfl) ?_
        refine xv_q (i := 0) (As := [.int (xI (t3 : Int))]) (rest := []) ⟨hx, hb, hml, hown, hts⟩ hl.1 (c_X4_textOf_in l D cA n ad en (by omega) hC t3 (by omega)) k_X4_textOf u_ml_RX4_97 hK hN hP (by omega) hC.1 rfl rfl rfl rfl (Nat.le_of_ble_eq_true rfl) ⟨Nat.le_of_ble_eq_true rfl, Nat.le_of_ble_eq_true rfl⟩ ⟨Nat.le_of_ble_eq_true rfl, Nat.le_of_ble_eq_true rfl⟩ dX4_region_9 ?_
        refine lv_astore (lv' := [(7, .ref (ad (21 + 3 * t3))), (6, .null), (0, .ref (ad 0)), (1, .int (xI z1)), (2, .int (xI z2)), (3, .int (xI (t3 : Int))), (4, .int (xI z4)), (5, .int (xI z5))]) hx hb dX4_region_12 hl (by decide) rfl (fun ls hl => ?_)
        refine lv_aloadN hx hb dX4_region_14 (lv_at hl 1 rfl) ?_
        refine lv_ifnullN (tgt := 24) hx hb dX4_region_16 (by decide) ?_
        refine x_sipush hx hb dX4_region_24 (by decide +kernel) ?_
        exact xr_i hx hb hrt hlocks ((by unfold am_region; simp only [Int.toNat_natCast]; rw [sp_if_t (by omega)])) dX4_region_27
      · have hT_t3 : XT cA ad en (21 + 3 * t3) (some r_t3) := by have q : XT cA ad en (21 + 3 * t3) (S.2.1 t3) := hC.rt h_t3; rw [hS_t3] at q; exact q
        have hr_t3 := hT_t3.2
        have hm_t3 := hr_t3.2.2.1
        refine lv_aload_n hx hb dX4_region_0 rfl (lv_at hl 0 rfl) ?_
        refine lv_iload_n hx hb dX4_region_1 rfl (lv_at hl 1 rfl) ?_
        refine xv_q (i := 0) (As := [.int (xI z1)]) (rest := []) ⟨hx, hb, hml, hown, hts⟩ hl.1 (c_X4_textOf_out l D cA n ad en (by omega) hC z1 (by omega) (by omega)) k_X4_textOf u_ml_RX4_97 hK hN hP (by omega) hC.1 rfl rfl rfl rfl (Nat.le_of_ble_eq_true rfl) ⟨Nat.le_of_ble_eq_true rfl, Nat.le_of_ble_eq_true rfl⟩ ⟨Nat.le_of_ble_eq_true rfl, Nat.le_of_ble_eq_true rfl⟩ dX4_region_2 ?_
        refine lv_astoreN (lv' := [(6, .null), (0, .ref (ad 0)), (1, .int (xI z1)), (2, .int (xI z2)), (3, .int (xI (t3 : Int))), (4, .int (xI z4)), (5, .int (xI z5))]) hx hb dX4_region_5 hl (by decide) rfl (fun ls hl => ?_)
        refine lv_aload_n hx hb dX4_region_7 rfl (lv_at hl 1 rfl) ?_
        refine lv_iload_n hx hb dX4_region_8 rfl (lv_at hl 4 rfl) ?_
        refine xv_q (i := 0) (As := [.int (xI (t3 : Int))]) (rest := []) ⟨hx, hb, hml, hown, hts⟩ hl.1 (c_X4_textOf_in l D cA n ad en (by omega) hC t3 (by omega)) k_X4_textOf u_ml_RX4_97 hK hN hP (by omega) hC.1 rfl rfl rfl rfl (Nat.le_of_ble_eq_true rfl) ⟨Nat.le_of_ble_eq_true rfl, Nat.le_of_ble_eq_true rfl⟩ ⟨Nat.le_of_ble_eq_true rfl, Nat.le_of_ble_eq_true rfl⟩ dX4_region_9 ?_
        refine lv_astore (lv' := [(7, .ref (ad (21 + 3 * t3))), (6, .null), (0, .ref (ad 0)), (1, .int (xI z1)), (2, .int (xI z2)), (3, .int (xI (t3 : Int))), (4, .int (xI z4)), (5, .int (xI z5))]) hx hb dX4_region_12 hl (by decide) rfl (fun ls hl => ?_)
        refine lv_aloadN hx hb dX4_region_14 (lv_at hl 1 rfl) ?_
        refine lv_ifnullN (tgt := 24) hx hb dX4_region_16 (by decide) ?_
        refine x_sipush hx hb dX4_region_24 (by decide +kernel) ?_
        exact xr_i hx hb hrt hlocks ((by unfold am_region; simp only [Int.toNat_natCast]; simp only [sp_get_s hS_t3]; rw [sp_if_t (by omega)])) dX4_region_27
    · refine lv_aload_n hx hb dX4_region_0 rfl (lv_at hl 0 rfl) ?_
      refine lv_iload_n hx hb dX4_region_1 rfl (lv_at hl 1 rfl) ?_
      refine xv_q (i := 0) (As := [.int (xI z1)]) (rest := []) ⟨hx, hb, hml, hown, hts⟩ hl.1 (c_X4_textOf_out l D cA n ad en (by omega) hC z1 (by omega) (by omega)) k_X4_textOf u_ml_RX4_97 hK hN hP (by omega) hC.1 rfl rfl rfl rfl (Nat.le_of_ble_eq_true rfl) ⟨Nat.le_of_ble_eq_true rfl, Nat.le_of_ble_eq_true rfl⟩ ⟨Nat.le_of_ble_eq_true rfl, Nat.le_of_ble_eq_true rfl⟩ dX4_region_2 ?_
      refine lv_astoreN (lv' := [(6, .null), (0, .ref (ad 0)), (1, .int (xI z1)), (2, .int (xI z2)), (3, .int (xI z3)), (4, .int (xI z4)), (5, .int (xI z5))]) hx hb dX4_region_5 hl (by decide) rfl (fun ls hl => ?_)
      refine lv_aload_n hx hb dX4_region_7 rfl (lv_at hl 1 rfl) ?_
      refine lv_iload_n hx hb dX4_region_8 rfl (lv_at hl 4 rfl) ?_
      refine xv_q (i := 0) (As := [.int (xI z3)]) (rest := []) ⟨hx, hb, hml, hown, hts⟩ hl.1 (c_X4_textOf_out l D cA n ad en (by omega) hC z3 (by omega) (by omega)) k_X4_textOf u_ml_RX4_97 hK hN hP (by omega) hC.1 rfl rfl rfl rfl (Nat.le_of_ble_eq_true rfl) ⟨Nat.le_of_ble_eq_true rfl, Nat.le_of_ble_eq_true rfl⟩ ⟨Nat.le_of_ble_eq_true rfl, Nat.le_of_ble_eq_true rfl⟩ dX4_region_9 ?_
      refine lv_astoreN (lv' := [(7, .null), (6, .null), (0, .ref (ad 0)), (1, .int (xI z1)), (2, .int (xI z2)), (3, .int (xI z3)), (4, .int (xI z4)), (5, .int (xI z5))]) hx hb dX4_region_12 hl (by decide) rfl (fun ls hl => ?_)
      refine lv_aloadN hx hb dX4_region_14 (lv_at hl 1 rfl) ?_
      refine lv_ifnullN (tgt := 24) hx hb dX4_region_16 (by decide) ?_
      refine x_sipush hx hb dX4_region_24 (by decide +kernel) ?_
      exact xr_i hx hb hrt hlocks ((by unfold am_region; rw [sp_if_t (by omega)])) dX4_region_27

set_option maxRecDepth 20000 in
theorem c_X4_order (l : Launch) (D : va_G) (cA : Nat → ClassId) (n : Nat) (ad : Nat → Nat) (en : Nat → va_E) (hn : 53 ≤ n) {S : xSt} (hC : CW cA ad en S) (z1 : Int) (hz1 : -2147483648 ≤ z1 ∧ z1 ≤ 2147483647) (z2 : Int) (hz2 : -2147483648 ≤ z2 ∧ z2 ≤ 2147483647) : Met l yX4_order (Cond.code yX4_order cX4_order 5 (some .int) :: xU) (xrm 3 66) (va_Pc [.ref (ad 0), .int (xI z1), .int (xI z2)] (xB D cA n ad en)) (vp_Si (fun z => z = xI (am_order S z1 z2))) 0 0 (fun _ => False) := by
  refine xmet (by decide) (Nat.le_of_ble_eq_true rfl) (fun p e s mm args below meth c ls hx hb hrt hml hown hts hlocks hname hB hl => ?_)
  obtain ⟨hP, hK, hN⟩ := hB
  have hl : lv_has ls 5 [(0, .ref (ad 0)), (1, .int (xI z1)), (2, .int (xI z2))] := hl
  rcases Classical.em (0 ≤ z1 ∧ z1 < 8) with hx_z1 | hx_z1
  · obtain ⟨t1, rfl⟩ : ∃ q : Nat, z1 = (q : Int) := ⟨z1.toNat, by omega⟩
    have h_t1 : t1 < 8 := by omega
    rcases hS_t1 : S.2.1 t1 with _ | r_t1
    · rcases Classical.em (0 ≤ z2 ∧ z2 < 8) with hx_z2 | hx_z2
      · obtain ⟨t2, rfl⟩ : ∃ q : Nat, z2 = (q : Int) := ⟨z2.toNat, by omega⟩
        have h_t2 : t2 < 8 := by omega
        rcases hS_t2 : S.2.1 t2 with _ | r_t2
        · have hT_t1 : XT cA ad en (21 + 3 * t1) none := by have q : XT cA ad en (21 + 3 * t1) (S.2.1 t1) := hC.rt h_t1; rw [hS_t1] at q; exact q
          have hT_t2 : XT cA ad en (21 + 3 * t2) none := by have q : XT cA ad en (21 + 3 * t2) (S.2.1 t2) := hC.rt h_t2; rw [hS_t2] at q; exact q
          refine lv_aload_n hx hb dX4_order_0 rfl (lv_at hl 0 rfl) ?_
          refine lv_iload_n hx hb dX4_order_1 rfl (lv_at hl 1 rfl) ?_
          refine xv_q (i := 0) (As := [.int (xI (t1 : Int))]) (rest := []) ⟨hx, hb, hml, hown, hts⟩ hl.1 (c_X4_textOf_in l D cA n ad en (by omega) hC t1 (by omega)) k_X4_textOf u_ml_RX4_97 hK hN hP (by omega) hC.1 rfl rfl rfl rfl (Nat.le_of_ble_eq_true rfl) ⟨Nat.le_of_ble_eq_true rfl, Nat.le_of_ble_eq_true rfl⟩ ⟨Nat.le_of_ble_eq_true rfl, Nat.le_of_ble_eq_true rfl⟩ dX4_order_2 ?_
          refine lv_astore_n (lv' := [(3, .ref (ad (21 + 3 * t1))), (0, .ref (ad 0)), (1, .int (xI (t1 : Int))), (2, .int (xI (t2 : Int)))]) hx hb dX4_order_5 rfl hl (by decide) rfl (fun ls hl => ?_)
          refine lv_aload_n hx hb dX4_order_6 rfl (lv_at hl 1 rfl) ?_
          refine lv_iload_n hx hb dX4_order_7 rfl (lv_at hl 3 rfl) ?_
          refine xv_q (i := 0) (As := [.int (xI (t2 : Int))]) (rest := []) ⟨hx, hb, hml, hown, hts⟩ hl.1 (c_X4_textOf_in l D cA n ad en (by omega) hC t2 (by omega)) k_X4_textOf u_ml_RX4_97 hK hN hP (by omega) hC.1 rfl rfl rfl rfl (Nat.le_of_ble_eq_true rfl) ⟨Nat.le_of_ble_eq_true rfl, Nat.le_of_ble_eq_true rfl⟩ ⟨Nat.le_of_ble_eq_true rfl, Nat.le_of_ble_eq_true rfl⟩ dX4_order_8 ?_
          refine lv_astore (lv' := [(4, .ref (ad (21 + 3 * t2))), (3, .ref (ad (21 + 3 * t1))), (0, .ref (ad 0)), (1, .int (xI (t1 : Int))), (2, .int (xI (t2 : Int)))]) hx hb dX4_order_11 hl (by decide) rfl (fun ls hl => ?_)
          refine lv_aload_n hx hb dX4_order_13 rfl (lv_at hl 1 rfl) ?_
          refine lv_ifnull hx hb dX4_order_14 ?_
          refine lv_aload hx hb dX4_order_17 (lv_at hl 0 rfl) ?_
          refine lv_ifnonnull (tgt := 26) hx hb dX4_order_19 (by decide) ?_
          refine lv_aload_n hx hb dX4_order_26 rfl (lv_at hl 1 rfl) ?_
          refine x_getn (T := TX3) (N := 2) hx hb hts uX3 hown hN hK hP (i := 21 + 3 * t1) (by omega) hT_t1.1 rfl 1 (by decide) (by simp only [xNest, List.mem_cons]; exact Or.inr (Or.inr (Or.inr (Or.inr (Or.inr (Or.inr (Or.inl rfl))))))) rfl dX4_order_27 ?_
          refine x_if_ne (tgt := 41) hx hb dX4_order_30 (by decide) (by omega) (fun c_30 => ?_) (fun c_30 => absurd c_30 (by omega))
          refine x_sipush hx hb dX4_order_41 (by decide +kernel) ?_
          exact xr_i hx hb hrt hlocks ((by unfold am_order; simp only [Int.toNat_natCast]; rw [sp_if_f (by omega), sp_if_t (by simp [hS_t1, hS_t2])])) dX4_order_44
        · have hT_t1 : XT cA ad en (21 + 3 * t1) none := by have q : XT cA ad en (21 + 3 * t1) (S.2.1 t1) := hC.rt h_t1; rw [hS_t1] at q; exact q
          have hT_t2 : XT cA ad en (21 + 3 * t2) (some r_t2) := by have q : XT cA ad en (21 + 3 * t2) (S.2.1 t2) := hC.rt h_t2; rw [hS_t2] at q; exact q
          have hr_t2 := hT_t2.2
          have hm_t2 := hr_t2.2.2.1
          refine lv_aload_n hx hb dX4_order_0 rfl (lv_at hl 0 rfl) ?_
          refine lv_iload_n hx hb dX4_order_1 rfl (lv_at hl 1 rfl) ?_
          refine xv_q (i := 0) (As := [.int (xI (t1 : Int))]) (rest := []) ⟨hx, hb, hml, hown, hts⟩ hl.1 (c_X4_textOf_in l D cA n ad en (by omega) hC t1 (by omega)) k_X4_textOf u_ml_RX4_97 hK hN hP (by omega) hC.1 rfl rfl rfl rfl (Nat.le_of_ble_eq_true rfl) ⟨Nat.le_of_ble_eq_true rfl, Nat.le_of_ble_eq_true rfl⟩ ⟨Nat.le_of_ble_eq_true rfl, Nat.le_of_ble_eq_true rfl⟩ dX4_order_2 ?_
          refine lv_astore_n (lv' := [(3, .ref (ad (21 + 3 * t1))), (0, .ref (ad 0)), (1, .int (xI (t1 : Int))), (2, .int (xI (t2 : Int)))]) hx hb dX4_order_5 rfl hl (by decide) rfl (fun ls hl => ?_)
          refine lv_aload_n hx hb dX4_order_6 rfl (lv_at hl 1 rfl) ?_
          refine lv_iload_n hx hb dX4_order_7 rfl (lv_at hl 3 rfl) ?_
          refine xv_q (i := 0) (As := [.int (xI (t2 : Int))]) (rest := []) ⟨hx, hb, hml, hown, hts⟩ hl.1 (c_X4_textOf_in l D cA n ad en (by omega) hC t2 (by omega)) k_X4_textOf u_ml_RX4_97 hK hN hP (by omega) hC.1 rfl rfl rfl rfl (Nat.le_of_ble_eq_true rfl) ⟨Nat.le_of_ble_eq_true rfl, Nat.le_of_ble_eq_true rfl⟩ ⟨Nat.le_of_ble_eq_true rfl, Nat.le_of_ble_eq_true rfl⟩ dX4_order_8 ?_
          refine lv_astore (lv' := [(4, .ref (ad (21 + 3 * t2))), (3, .ref (ad (21 + 3 * t1))), (0, .ref (ad 0)), (1, .int (xI (t1 : Int))), (2, .int (xI (t2 : Int)))]) hx hb dX4_order_11 hl (by decide) rfl (fun ls hl => ?_)
          refine lv_aload_n hx hb dX4_order_13 rfl (lv_at hl 1 rfl) ?_
          refine lv_ifnull hx hb dX4_order_14 ?_
          refine lv_aload hx hb dX4_order_17 (lv_at hl 0 rfl) ?_
          refine lv_ifnonnull (tgt := 26) hx hb dX4_order_19 (by decide) ?_
          refine lv_aload_n hx hb dX4_order_26 rfl (lv_at hl 1 rfl) ?_
          refine x_getn (T := TX3) (N := 2) hx hb hts uX3 hown hN hK hP (i := 21 + 3 * t1) (by omega) hT_t1.1 rfl 1 (by decide) (by simp only [xNest, List.mem_cons]; exact Or.inr (Or.inr (Or.inr (Or.inr (Or.inr (Or.inr (Or.inl rfl))))))) rfl dX4_order_27 ?_
          refine x_if_ne (tgt := 41) hx hb dX4_order_30 (by decide) (by omega) (fun c_30 => ?_) (fun c_30 => absurd c_30 (by omega))
          refine x_sipush hx hb dX4_order_41 (by decide +kernel) ?_
          exact xr_i hx hb hrt hlocks ((by unfold am_order; simp only [Int.toNat_natCast]; simp only [sp_get_s hS_t2]; rw [sp_if_f (by omega), sp_if_t (by simp [hS_t1, hS_t2])])) dX4_order_44
      · have hT_t1 : XT cA ad en (21 + 3 * t1) none := by have q : XT cA ad en (21 + 3 * t1) (S.2.1 t1) := hC.rt h_t1; rw [hS_t1] at q; exact q
        refine lv_aload_n hx hb dX4_order_0 rfl (lv_at hl 0 rfl) ?_
        refine lv_iload_n hx hb dX4_order_1 rfl (lv_at hl 1 rfl) ?_
        refine xv_q (i := 0) (As := [.int (xI (t1 : Int))]) (rest := []) ⟨hx, hb, hml, hown, hts⟩ hl.1 (c_X4_textOf_in l D cA n ad en (by omega) hC t1 (by omega)) k_X4_textOf u_ml_RX4_97 hK hN hP (by omega) hC.1 rfl rfl rfl rfl (Nat.le_of_ble_eq_true rfl) ⟨Nat.le_of_ble_eq_true rfl, Nat.le_of_ble_eq_true rfl⟩ ⟨Nat.le_of_ble_eq_true rfl, Nat.le_of_ble_eq_true rfl⟩ dX4_order_2 ?_
        refine lv_astore_n (lv' := [(3, .ref (ad (21 + 3 * t1))), (0, .ref (ad 0)), (1, .int (xI (t1 : Int))), (2, .int (xI z2))]) hx hb dX4_order_5 rfl hl (by decide) rfl (fun ls hl => ?_)
        refine lv_aload_n hx hb dX4_order_6 rfl (lv_at hl 1 rfl) ?_
        refine lv_iload_n hx hb dX4_order_7 rfl (lv_at hl 3 rfl) ?_
        refine xv_q (i := 0) (As := [.int (xI z2)]) (rest := []) ⟨hx, hb, hml, hown, hts⟩ hl.1 (c_X4_textOf_out l D cA n ad en (by omega) hC z2 (by omega) (by omega)) k_X4_textOf u_ml_RX4_97 hK hN hP (by omega) hC.1 rfl rfl rfl rfl (Nat.le_of_ble_eq_true rfl) ⟨Nat.le_of_ble_eq_true rfl, Nat.le_of_ble_eq_true rfl⟩ ⟨Nat.le_of_ble_eq_true rfl, Nat.le_of_ble_eq_true rfl⟩ dX4_order_8 ?_
        refine lv_astoreN (lv' := [(4, .null), (3, .ref (ad (21 + 3 * t1))), (0, .ref (ad 0)), (1, .int (xI (t1 : Int))), (2, .int (xI z2))]) hx hb dX4_order_11 hl (by decide) rfl (fun ls hl => ?_)
        refine lv_aload_n hx hb dX4_order_13 rfl (lv_at hl 1 rfl) ?_
        refine lv_ifnull hx hb dX4_order_14 ?_
        refine lv_aloadN hx hb dX4_order_17 (lv_at hl 0 rfl) ?_
        refine lv_ifnonnullN hx hb dX4_order_19 ?_
        refine x_sipush hx hb dX4_order_22 (by decide +kernel) ?_
        exact xr_i hx hb hrt hlocks ((by unfold am_order; simp only [Int.toNat_natCast]; rw [sp_if_t (by omega)])) dX4_order_25
    · rcases Classical.em (0 ≤ z2 ∧ z2 < 8) with hx_z2 | hx_z2
      · obtain ⟨t2, rfl⟩ : ∃ q : Nat, z2 = (q : Int) := ⟨z2.toNat, by omega⟩
        have h_t2 : t2 < 8 := by omega
        rcases hS_t2 : S.2.1 t2 with _ | r_t2
        · have hT_t1 : XT cA ad en (21 + 3 * t1) (some r_t1) := by have q : XT cA ad en (21 + 3 * t1) (S.2.1 t1) := hC.rt h_t1; rw [hS_t1] at q; exact q
          have hr_t1 := hT_t1.2
          have hm_t1 := hr_t1.2.2.1
          have hT_t2 : XT cA ad en (21 + 3 * t2) none := by have q : XT cA ad en (21 + 3 * t2) (S.2.1 t2) := hC.rt h_t2; rw [hS_t2] at q; exact q
          refine lv_aload_n hx hb dX4_order_0 rfl (lv_at hl 0 rfl) ?_
          refine lv_iload_n hx hb dX4_order_1 rfl (lv_at hl 1 rfl) ?_
          refine xv_q (i := 0) (As := [.int (xI (t1 : Int))]) (rest := []) ⟨hx, hb, hml, hown, hts⟩ hl.1 (c_X4_textOf_in l D cA n ad en (by omega) hC t1 (by omega)) k_X4_textOf u_ml_RX4_97 hK hN hP (by omega) hC.1 rfl rfl rfl rfl (Nat.le_of_ble_eq_true rfl) ⟨Nat.le_of_ble_eq_true rfl, Nat.le_of_ble_eq_true rfl⟩ ⟨Nat.le_of_ble_eq_true rfl, Nat.le_of_ble_eq_true rfl⟩ dX4_order_2 ?_
          refine lv_astore_n (lv' := [(3, .ref (ad (21 + 3 * t1))), (0, .ref (ad 0)), (1, .int (xI (t1 : Int))), (2, .int (xI (t2 : Int)))]) hx hb dX4_order_5 rfl hl (by decide) rfl (fun ls hl => ?_)
          refine lv_aload_n hx hb dX4_order_6 rfl (lv_at hl 1 rfl) ?_
          refine lv_iload_n hx hb dX4_order_7 rfl (lv_at hl 3 rfl) ?_
          refine xv_q (i := 0) (As := [.int (xI (t2 : Int))]) (rest := []) ⟨hx, hb, hml, hown, hts⟩ hl.1 (c_X4_textOf_in l D cA n ad en (by omega) hC t2 (by omega)) k_X4_textOf u_ml_RX4_97 hK hN hP (by omega) hC.1 rfl rfl rfl rfl (Nat.le_of_ble_eq_true rfl) ⟨Nat.le_of_ble_eq_true rfl, Nat.le_of_ble_eq_true rfl⟩ ⟨Nat.le_of_ble_eq_true rfl, Nat.le_of_ble_eq_true rfl⟩ dX4_order_8 ?_
          refine lv_astore (lv' := [(4, .ref (ad (21 + 3 * t2))), (3, .ref (ad (21 + 3 * t1))), (0, .ref (ad 0)), (1, .int (xI (t1 : Int))), (2, .int (xI (t2 : Int)))]) hx hb dX4_order_11 hl (by decide) rfl (fun ls hl => ?_)
          refine lv_aload_n hx hb dX4_order_13 rfl (lv_at hl 1 rfl) ?_
          refine lv_ifnull hx hb dX4_order_14 ?_
          refine lv_aload hx hb dX4_order_17 (lv_at hl 0 rfl) ?_
          refine lv_ifnonnull (tgt := 26) hx hb dX4_order_19 (by decide) ?_
          refine lv_aload_n hx hb dX4_order_26 rfl (lv_at hl 1 rfl) ?_
          refine x_getn (T := TX3) (N := 2) hx hb hts uX3 hown hN hK hP (i := 21 + 3 * t1) (by omega) hT_t1.1 rfl 1 (by decide) (by simp only [xNest, List.mem_cons]; exact Or.inr (Or.inr (Or.inr (Or.inr (Or.inr (Or.inr (Or.inl rfl))))))) rfl dX4_order_27 ?_
          refine x_if_ne (tgt := 41) hx hb dX4_order_30 (by decide) (by omega) (fun c_30 => absurd c_30 (by omega)) (fun c_30 => ?_)
          refine lv_aload hx hb dX4_order_33 (lv_at hl 0 rfl) ?_
          refine x_getn (T := TX3) (N := 2) hx hb hts uX3 hown hN hK hP (i := 21 + 3 * t2) (by omega) hT_t2.1 rfl 1 (by decide) (by simp only [xNest, List.mem_cons]; exact Or.inr (Or.inr (Or.inr (Or.inr (Or.inr (Or.inr (Or.inl rfl))))))) rfl dX4_order_35 ?_
          refine x_if_eq (tgt := 45) hx hb dX4_order_38 (by decide) (by omega) (fun c_38 => absurd c_38 (by omega)) (fun c_38 => ?_)
          refine x_sipush hx hb dX4_order_41 (by decide +kernel) ?_
          exact xr_i hx hb hrt hlocks ((by unfold am_order; simp only [Int.toNat_natCast]; simp only [sp_get_s hS_t1]; rw [sp_if_f (by omega), sp_if_t (by simp [hS_t1, hS_t2])])) dX4_order_44
        · have hT_t1 : XT cA ad en (21 + 3 * t1) (some r_t1) := by have q : XT cA ad en (21 + 3 * t1) (S.2.1 t1) := hC.rt h_t1; rw [hS_t1] at q; exact q
          have hr_t1 := hT_t1.2
          have hm_t1 := hr_t1.2.2.1
          have hT_t2 : XT cA ad en (21 + 3 * t2) (some r_t2) := by have q : XT cA ad en (21 + 3 * t2) (S.2.1 t2) := hC.rt h_t2; rw [hS_t2] at q; exact q
          have hr_t2 := hT_t2.2
          have hm_t2 := hr_t2.2.2.1
          refine lv_aload_n hx hb dX4_order_0 rfl (lv_at hl 0 rfl) ?_
          refine lv_iload_n hx hb dX4_order_1 rfl (lv_at hl 1 rfl) ?_
          refine xv_q (i := 0) (As := [.int (xI (t1 : Int))]) (rest := []) ⟨hx, hb, hml, hown, hts⟩ hl.1 (c_X4_textOf_in l D cA n ad en (by omega) hC t1 (by omega)) k_X4_textOf u_ml_RX4_97 hK hN hP (by omega) hC.1 rfl rfl rfl rfl (Nat.le_of_ble_eq_true rfl) ⟨Nat.le_of_ble_eq_true rfl, Nat.le_of_ble_eq_true rfl⟩ ⟨Nat.le_of_ble_eq_true rfl, Nat.le_of_ble_eq_true rfl⟩ dX4_order_2 ?_
          refine lv_astore_n (lv' := [(3, .ref (ad (21 + 3 * t1))), (0, .ref (ad 0)), (1, .int (xI (t1 : Int))), (2, .int (xI (t2 : Int)))]) hx hb dX4_order_5 rfl hl (by decide) rfl (fun ls hl => ?_)
          refine lv_aload_n hx hb dX4_order_6 rfl (lv_at hl 1 rfl) ?_
          refine lv_iload_n hx hb dX4_order_7 rfl (lv_at hl 3 rfl) ?_
          refine xv_q (i := 0) (As := [.int (xI (t2 : Int))]) (rest := []) ⟨hx, hb, hml, hown, hts⟩ hl.1 (c_X4_textOf_in l D cA n ad en (by omega) hC t2 (by omega)) k_X4_textOf u_ml_RX4_97 hK hN hP (by omega) hC.1 rfl rfl rfl rfl (Nat.le_of_ble_eq_true rfl) ⟨Nat.le_of_ble_eq_true rfl, Nat.le_of_ble_eq_true rfl⟩ ⟨Nat.le_of_ble_eq_true rfl, Nat.le_of_ble_eq_true rfl⟩ dX4_order_8 ?_
          refine lv_astore (lv' := [(4, .ref (ad (21 + 3 * t2))), (3, .ref (ad (21 + 3 * t1))), (0, .ref (ad 0)), (1, .int (xI (t1 : Int))), (2, .int (xI (t2 : Int)))]) hx hb dX4_order_11 hl (by decide) rfl (fun ls hl => ?_)
          refine lv_aload_n hx hb dX4_order_13 rfl (lv_at hl 1 rfl) ?_
          refine lv_ifnull hx hb dX4_order_14 ?_
          refine lv_aload hx hb dX4_order_17 (lv_at hl 0 rfl) ?_
          refine lv_ifnonnull (tgt := 26) hx hb dX4_order_19 (by decide) ?_
          refine lv_aload_n hx hb dX4_order_26 rfl (lv_at hl 1 rfl) ?_
          refine x_getn (T := TX3) (N := 2) hx hb hts uX3 hown hN hK hP (i := 21 + 3 * t1) (by omega) hT_t1.1 rfl 1 (by decide) (by simp only [xNest, List.mem_cons]; exact Or.inr (Or.inr (Or.inr (Or.inr (Or.inr (Or.inr (Or.inl rfl))))))) rfl dX4_order_27 ?_
          refine x_if_ne (tgt := 41) hx hb dX4_order_30 (by decide) (by omega) (fun c_30 => absurd c_30 (by omega)) (fun c_30 => ?_)
          refine lv_aload hx hb dX4_order_33 (lv_at hl 0 rfl) ?_
          refine x_getn (T := TX3) (N := 2) hx hb hts uX3 hown hN hK hP (i := 21 + 3 * t2) (by omega) hT_t2.1 rfl 1 (by decide) (by simp only [xNest, List.mem_cons]; exact Or.inr (Or.inr (Or.inr (Or.inr (Or.inr (Or.inr (Or.inl rfl))))))) rfl dX4_order_35 ?_
          refine x_if_eq (tgt := 45) hx hb dX4_order_38 (by decide) (by omega) (fun c_38 => ?_) (fun c_38 => absurd c_38 (by omega))
          refine lv_aload_n hx hb dX4_order_45 rfl (lv_at hl 1 rfl) ?_
          refine x_getn (T := TX3) (N := 2) hx hb hts uX3 hown hN hK hP (i := 21 + 3 * t1) (by omega) hT_t1.1 rfl 0 (by decide) (by simp only [xNest, List.mem_cons]; exact Or.inr (Or.inr (Or.inr (Or.inr (Or.inr (Or.inl rfl)))))) rfl dX4_order_46 ?_
          refine lv_aload hx hb dX4_order_49 (lv_at hl 0 rfl) ?_
          refine x_getn (T := TX3) (N := 2) hx hb hts uX3 hown hN hK hP (i := 21 + 3 * t2) (by omega) hT_t2.1 rfl 0 (by decide) (by simp only [xNest, List.mem_cons]; exact Or.inr (Or.inr (Or.inr (Or.inr (Or.inr (Or.inl rfl)))))) rfl dX4_order_51 ?_
          refine xv_i (i := 21 + 3 * t1 + 1) (As := [.ref (ad (21 + 3 * t2 + 1))]) (rest := []) ⟨hx, hb, hml, hown, hts⟩ hl.1 (c_X2_against l D cA n ad en (by omega) hr_t1 (by omega) hr_t2  ) k_X2_against u_ml_RX4_133 hK hN hP (by omega) hr_t1.1 rfl rfl rfl rfl (Nat.le_of_ble_eq_true rfl) ⟨Nat.le_of_ble_eq_true rfl, Nat.le_of_ble_eq_true rfl⟩ ⟨Nat.le_of_ble_eq_true rfl, Nat.le_of_ble_eq_true rfl⟩ dX4_order_54 ?_
          exact xr_i hx hb hrt hlocks ((by unfold am_order; simp only [Int.toNat_natCast]; simp only [sp_get_s hS_t1, sp_get_s hS_t2]; rw [sp_if_f (by omega), sp_if_f (by simp [hS_t1, hS_t2])])) dX4_order_57
      · have hT_t1 : XT cA ad en (21 + 3 * t1) (some r_t1) := by have q : XT cA ad en (21 + 3 * t1) (S.2.1 t1) := hC.rt h_t1; rw [hS_t1] at q; exact q
        have hr_t1 := hT_t1.2
        have hm_t1 := hr_t1.2.2.1
        refine lv_aload_n hx hb dX4_order_0 rfl (lv_at hl 0 rfl) ?_
        refine lv_iload_n hx hb dX4_order_1 rfl (lv_at hl 1 rfl) ?_
        refine xv_q (i := 0) (As := [.int (xI (t1 : Int))]) (rest := []) ⟨hx, hb, hml, hown, hts⟩ hl.1 (c_X4_textOf_in l D cA n ad en (by omega) hC t1 (by omega)) k_X4_textOf u_ml_RX4_97 hK hN hP (by omega) hC.1 rfl rfl rfl rfl (Nat.le_of_ble_eq_true rfl) ⟨Nat.le_of_ble_eq_true rfl, Nat.le_of_ble_eq_true rfl⟩ ⟨Nat.le_of_ble_eq_true rfl, Nat.le_of_ble_eq_true rfl⟩ dX4_order_2 ?_
        refine lv_astore_n (lv' := [(3, .ref (ad (21 + 3 * t1))), (0, .ref (ad 0)), (1, .int (xI (t1 : Int))), (2, .int (xI z2))]) hx hb dX4_order_5 rfl hl (by decide) rfl (fun ls hl => ?_)
        refine lv_aload_n hx hb dX4_order_6 rfl (lv_at hl 1 rfl) ?_
        refine lv_iload_n hx hb dX4_order_7 rfl (lv_at hl 3 rfl) ?_
        refine xv_q (i := 0) (As := [.int (xI z2)]) (rest := []) ⟨hx, hb, hml, hown, hts⟩ hl.1 (c_X4_textOf_out l D cA n ad en (by omega) hC z2 (by omega) (by omega)) k_X4_textOf u_ml_RX4_97 hK hN hP (by omega) hC.1 rfl rfl rfl rfl (Nat.le_of_ble_eq_true rfl) ⟨Nat.le_of_ble_eq_true rfl, Nat.le_of_ble_eq_true rfl⟩ ⟨Nat.le_of_ble_eq_true rfl, Nat.le_of_ble_eq_true rfl⟩ dX4_order_8 ?_
        refine lv_astoreN (lv' := [(4, .null), (3, .ref (ad (21 + 3 * t1))), (0, .ref (ad 0)), (1, .int (xI (t1 : Int))), (2, .int (xI z2))]) hx hb dX4_order_11 hl (by decide) rfl (fun ls hl => ?_)
        refine lv_aload_n hx hb dX4_order_13 rfl (lv_at hl 1 rfl) ?_
        refine lv_ifnull hx hb dX4_order_14 ?_
        refine lv_aloadN hx hb dX4_order_17 (lv_at hl 0 rfl) ?_
        refine lv_ifnonnullN hx hb dX4_order_19 ?_
        refine x_sipush hx hb dX4_order_22 (by decide +kernel) ?_
        exact xr_i hx hb hrt hlocks ((by unfold am_order; simp only [Int.toNat_natCast]; simp only [sp_get_s hS_t1]; rw [sp_if_t (by omega)])) dX4_order_25
  · rcases Classical.em (0 ≤ z2 ∧ z2 < 8) with hx_z2 | hx_z2
    · obtain ⟨t2, rfl⟩ : ∃ q : Nat, z2 = (q : Int) := ⟨z2.toNat, by omega⟩
      have h_t2 : t2 < 8 := by omega
      rcases hS_t2 : S.2.1 t2 with _ | r_t2
      · have hT_t2 : XT cA ad en (21 + 3 * t2) none := by have q : XT cA ad en (21 + 3 * t2) (S.2.1 t2) := hC.rt h_t2; rw [hS_t2] at q; exact q
        refine lv_aload_n hx hb dX4_order_0 rfl (lv_at hl 0 rfl) ?_
        refine lv_iload_n hx hb dX4_order_1 rfl (lv_at hl 1 rfl) ?_
        refine xv_q (i := 0) (As := [.int (xI z1)]) (rest := []) ⟨hx, hb, hml, hown, hts⟩ hl.1 (c_X4_textOf_out l D cA n ad en (by omega) hC z1 (by omega) (by omega)) k_X4_textOf u_ml_RX4_97 hK hN hP (by omega) hC.1 rfl rfl rfl rfl (Nat.le_of_ble_eq_true rfl) ⟨Nat.le_of_ble_eq_true rfl, Nat.le_of_ble_eq_true rfl⟩ ⟨Nat.le_of_ble_eq_true rfl, Nat.le_of_ble_eq_true rfl⟩ dX4_order_2 ?_
        refine lv_astore_nN (lv' := [(3, .null), (0, .ref (ad 0)), (1, .int (xI z1)), (2, .int (xI (t2 : Int)))]) hx hb dX4_order_5 rfl hl (by decide) rfl (fun ls hl => ?_)
        refine lv_aload_n hx hb dX4_order_6 rfl (lv_at hl 1 rfl) ?_
        refine lv_iload_n hx hb dX4_order_7 rfl (lv_at hl 3 rfl) ?_
        refine xv_q (i := 0) (As := [.int (xI (t2 : Int))]) (rest := []) ⟨hx, hb, hml, hown, hts⟩ hl.1 (c_X4_textOf_in l D cA n ad en (by omega) hC t2 (by omega)) k_X4_textOf u_ml_RX4_97 hK hN hP (by omega) hC.1 rfl rfl rfl rfl (Nat.le_of_ble_eq_true rfl) ⟨Nat.le_of_ble_eq_true rfl, Nat.le_of_ble_eq_true rfl⟩ ⟨Nat.le_of_ble_eq_true rfl, Nat.le_of_ble_eq_true rfl⟩ dX4_order_8 ?_
        refine lv_astore (lv' := [(4, .ref (ad (21 + 3 * t2))), (3, .null), (0, .ref (ad 0)), (1, .int (xI z1)), (2, .int (xI (t2 : Int)))]) hx hb dX4_order_11 hl (by decide) rfl (fun ls hl => ?_)
        refine lv_aload_nN hx hb dX4_order_13 rfl (lv_at hl 1 rfl) ?_
        refine lv_ifnullN (tgt := 22) hx hb dX4_order_14 (by decide) ?_
        refine x_sipush hx hb dX4_order_22 (by decide +kernel) ?_
        exact xr_i hx hb hrt hlocks ((by unfold am_order; simp only [Int.toNat_natCast]; rw [sp_if_t (by omega)])) dX4_order_25
      · have hT_t2 : XT cA ad en (21 + 3 * t2) (some r_t2) := by have q : XT cA ad en (21 + 3 * t2) (S.2.1 t2) := hC.rt h_t2; rw [hS_t2] at q; exact q
        have hr_t2 := hT_t2.2
        have hm_t2 := hr_t2.2.2.1
        refine lv_aload_n hx hb dX4_order_0 rfl (lv_at hl 0 rfl) ?_
        refine lv_iload_n hx hb dX4_order_1 rfl (lv_at hl 1 rfl) ?_
        refine xv_q (i := 0) (As := [.int (xI z1)]) (rest := []) ⟨hx, hb, hml, hown, hts⟩ hl.1 (c_X4_textOf_out l D cA n ad en (by omega) hC z1 (by omega) (by omega)) k_X4_textOf u_ml_RX4_97 hK hN hP (by omega) hC.1 rfl rfl rfl rfl (Nat.le_of_ble_eq_true rfl) ⟨Nat.le_of_ble_eq_true rfl, Nat.le_of_ble_eq_true rfl⟩ ⟨Nat.le_of_ble_eq_true rfl, Nat.le_of_ble_eq_true rfl⟩ dX4_order_2 ?_
        refine lv_astore_nN (lv' := [(3, .null), (0, .ref (ad 0)), (1, .int (xI z1)), (2, .int (xI (t2 : Int)))]) hx hb dX4_order_5 rfl hl (by decide) rfl (fun ls hl => ?_)
        refine lv_aload_n hx hb dX4_order_6 rfl (lv_at hl 1 rfl) ?_
        refine lv_iload_n hx hb dX4_order_7 rfl (lv_at hl 3 rfl) ?_
        refine xv_q (i := 0) (As := [.int (xI (t2 : Int))]) (rest := []) ⟨hx, hb, hml, hown, hts⟩ hl.1 (c_X4_textOf_in l D cA n ad en (by omega) hC t2 (by omega)) k_X4_textOf u_ml_RX4_97 hK hN hP (by omega) hC.1 rfl rfl rfl rfl (Nat.le_of_ble_eq_true rfl) ⟨Nat.le_of_ble_eq_true rfl, Nat.le_of_ble_eq_true rfl⟩ ⟨Nat.le_of_ble_eq_true rfl, Nat.le_of_ble_eq_true rfl⟩ dX4_order_8 ?_
        refine lv_astore (lv' := [(4, .ref (ad (21 + 3 * t2))), (3, .null), (0, .ref (ad 0)), (1, .int (xI z1)), (2, .int (xI (t2 : Int)))]) hx hb dX4_order_11 hl (by decide) rfl (fun ls hl => ?_)
        refine lv_aload_nN hx hb dX4_order_13 rfl (lv_at hl 1 rfl) ?_
        refine lv_ifnullN (tgt := 22) hx hb dX4_order_14 (by decide) ?_
        refine x_sipush hx hb dX4_order_22 (by decide +kernel) ?_
        exact xr_i hx hb hrt hlocks ((by unfold am_order; simp only [Int.toNat_natCast]; simp only [sp_get_s hS_t2]; rw [sp_if_t (by omega)])) dX4_order_25
    · refine lv_aload_n hx hb dX4_order_0 rfl (lv_at hl 0 rfl) ?_
      refine lv_iload_n hx hb dX4_order_1 rfl (lv_at hl 1 rfl) ?_
      refine xv_q (i := 0) (As := [.int (xI z1)]) (rest := []) ⟨hx, hb, hml, hown, hts⟩ hl.1 (c_X4_textOf_out l D cA n ad en (by omega) hC z1 (by omega) (by omega)) k_X4_textOf u_ml_RX4_97 hK hN hP (by omega) hC.1 rfl rfl rfl rfl (Nat.le_of_ble_eq_true rfl) ⟨Nat.le_of_ble_eq_true rfl, Nat.le_of_ble_eq_true rfl⟩ ⟨Nat.le_of_ble_eq_true rfl, Nat.le_of_ble_eq_true rfl⟩ dX4_order_2 ?_
      refine lv_astore_nN (lv' := [(3, .null), (0, .ref (ad 0)), (1, .int (xI z1)), (2, .int (xI z2))]) hx hb dX4_order_5 rfl hl (by decide) rfl (fun ls hl => ?_)
      refine lv_aload_n hx hb dX4_order_6 rfl (lv_at hl 1 rfl) ?_
      refine lv_iload_n hx hb dX4_order_7 rfl (lv_at hl 3 rfl) ?_
      refine xv_q (i := 0) (As := [.int (xI z2)]) (rest := []) ⟨hx, hb, hml, hown, hts⟩ hl.1 (c_X4_textOf_out l D cA n ad en (by omega) hC z2 (by omega) (by omega)) k_X4_textOf u_ml_RX4_97 hK hN hP (by omega) hC.1 rfl rfl rfl rfl (Nat.le_of_ble_eq_true rfl) ⟨Nat.le_of_ble_eq_true rfl, Nat.le_of_ble_eq_true rfl⟩ ⟨Nat.le_of_ble_eq_true rfl, Nat.le_of_ble_eq_true rfl⟩ dX4_order_8 ?_
      refine lv_astoreN (lv' := [(4, .null), (3, .null), (0, .ref (ad 0)), (1, .int (xI z1)), (2, .int (xI z2))]) hx hb dX4_order_11 hl (by decide) rfl (fun ls hl => ?_)
      refine lv_aload_nN hx hb dX4_order_13 rfl (lv_at hl 1 rfl) ?_
      refine lv_ifnullN (tgt := 22) hx hb dX4_order_14 (by decide) ?_
      refine x_sipush hx hb dX4_order_22 (by decide +kernel) ?_
      exact xr_i hx hb hrt hlocks ((by unfold am_order; rw [sp_if_t (by omega)])) dX4_order_25

set_option maxRecDepth 20000 in
theorem c_X4_begins (l : Launch) (D : va_G) (cA : Nat → ClassId) (n : Nat) (ad : Nat → Nat) (en : Nat → va_E) (hn : 53 ≤ n) {S : xSt} (hC : CW cA ad en S) (z1 : Int) (hz1 : -2147483648 ≤ z1 ∧ z1 ≤ 2147483647) (z2 : Int) (hz2 : -2147483648 ≤ z2 ∧ z2 ≤ 2147483647) (z3 : Int) (hz3 : -2147483648 ≤ z3 ∧ z3 ≤ 2147483647) : Met l yX4_begins (Cond.code yX4_begins cX4_begins 6 (some .int) :: xU) (xrm 4 89) (va_Pc [.ref (ad 0), .int (xI z1), .int (xI z2), .int (xI z3)] (xB D cA n ad en)) (vp_Si (fun z => z = xI (am_begins S z1 z2 z3))) 0 0 (fun _ => False) := by
  refine xmet (by decide) (Nat.le_of_ble_eq_true rfl) (fun p e s mm args below meth c ls hx hb hrt hml hown hts hlocks hname hB hl => ?_)
  obtain ⟨hP, hK, hN⟩ := hB
  have hl : lv_has ls 6 [(0, .ref (ad 0)), (1, .int (xI z1)), (2, .int (xI z2)), (3, .int (xI z3))] := hl
  rcases Classical.em (0 ≤ z1 ∧ z1 < 8) with hx_z1 | hx_z1
  · obtain ⟨t1, rfl⟩ : ∃ q : Nat, z1 = (q : Int) := ⟨z1.toNat, by omega⟩
    have h_t1 : t1 < 8 := by omega
    rcases hS_t1 : S.2.1 t1 with _ | r_t1
    · rcases Classical.em (0 ≤ z2 ∧ z2 < 8) with hx_z2 | hx_z2
      · obtain ⟨t2, rfl⟩ : ∃ q : Nat, z2 = (q : Int) := ⟨z2.toNat, by omega⟩
        have h_t2 : t2 < 8 := by omega
        rcases hS_t2 : S.2.1 t2 with _ | r_t2
        · have hT_t1 : XT cA ad en (21 + 3 * t1) none := by have q : XT cA ad en (21 + 3 * t1) (S.2.1 t1) := hC.rt h_t1; rw [hS_t1] at q; exact q
          have hT_t2 : XT cA ad en (21 + 3 * t2) none := by have q : XT cA ad en (21 + 3 * t2) (S.2.1 t2) := hC.rt h_t2; rw [hS_t2] at q; exact q
          refine lv_aload_n hx hb dX4_begins_0 rfl (lv_at hl 0 rfl) ?_
          refine lv_iload_n hx hb dX4_begins_1 rfl (lv_at hl 1 rfl) ?_
          refine xv_q (i := 0) (As := [.int (xI (t1 : Int))]) (rest := []) ⟨hx, hb, hml, hown, hts⟩ hl.1 (c_X4_textOf_in l D cA n ad en (by omega) hC t1 (by omega)) k_X4_textOf u_ml_RX4_97 hK hN hP (by omega) hC.1 rfl rfl rfl rfl (Nat.le_of_ble_eq_true rfl) ⟨Nat.le_of_ble_eq_true rfl, Nat.le_of_ble_eq_true rfl⟩ ⟨Nat.le_of_ble_eq_true rfl, Nat.le_of_ble_eq_true rfl⟩ dX4_begins_2 ?_
          refine lv_astore (lv' := [(4, .ref (ad (21 + 3 * t1))), (0, .ref (ad 0)), (1, .int (xI (t1 : Int))), (2, .int (xI (t2 : Int))), (3, .int (xI z3))]) hx hb dX4_begins_5 hl (by decide) rfl (fun ls hl => ?_)
          refine lv_aload_n hx hb dX4_begins_7 rfl (lv_at hl 1 rfl) ?_
          refine lv_iload_n hx hb dX4_begins_8 rfl (lv_at hl 3 rfl) ?_
          refine xv_q (i := 0) (As := [.int (xI (t2 : Int))]) (rest := []) ⟨hx, hb, hml, hown, hts⟩ hl.1 (c_X4_textOf_in l D cA n ad en (by omega) hC t2 (by omega)) k_X4_textOf u_ml_RX4_97 hK hN hP (by omega) hC.1 rfl rfl rfl rfl (Nat.le_of_ble_eq_true rfl) ⟨Nat.le_of_ble_eq_true rfl, Nat.le_of_ble_eq_true rfl⟩ ⟨Nat.le_of_ble_eq_true rfl, Nat.le_of_ble_eq_true rfl⟩ dX4_begins_9 ?_
          refine lv_astore (lv' := [(5, .ref (ad (21 + 3 * t2))), (4, .ref (ad (21 + 3 * t1))), (0, .ref (ad 0)), (1, .int (xI (t1 : Int))), (2, .int (xI (t2 : Int))), (3, .int (xI z3))]) hx hb dX4_begins_12 hl (by decide) rfl (fun ls hl => ?_)
          refine lv_aload hx hb dX4_begins_14 (lv_at hl 1 rfl) ?_
          refine lv_ifnull hx hb dX4_begins_16 ?_
          refine lv_aload hx hb dX4_begins_19 (lv_at hl 0 rfl) ?_
          refine lv_ifnonnull (tgt := 28) hx hb dX4_begins_21 (by decide) ?_
          refine lv_aload hx hb dX4_begins_28 (lv_at hl 1 rfl) ?_
          refine x_getn (T := TX3) (N := 2) hx hb hts uX3 hown hN hK hP (i := 21 + 3 * t1) (by omega) hT_t1.1 rfl 1 (by decide) (by simp only [xNest, List.mem_cons]; exact Or.inr (Or.inr (Or.inr (Or.inr (Or.inr (Or.inr (Or.inl rfl))))))) rfl dX4_begins_30 ?_
          refine x_if_ne (tgt := 44) hx hb dX4_begins_33 (by decide) (by omega) (fun c_33 => ?_) (fun c_33 => absurd c_33 (by omega))
          refine x_sipush hx hb dX4_begins_44 (by decide +kernel) ?_
          exact xr_i hx hb hrt hlocks ((by unfold am_begins; simp only [Int.toNat_natCast]; rw [sp_if_f (by omega), sp_if_t (by simp [hS_t1, hS_t2])])) dX4_begins_47
        · have hT_t1 : XT cA ad en (21 + 3 * t1) none := by have q : XT cA ad en (21 + 3 * t1) (S.2.1 t1) := hC.rt h_t1; rw [hS_t1] at q; exact q
          have hT_t2 : XT cA ad en (21 + 3 * t2) (some r_t2) := by have q : XT cA ad en (21 + 3 * t2) (S.2.1 t2) := hC.rt h_t2; rw [hS_t2] at q; exact q
          have hr_t2 := hT_t2.2
          have hm_t2 := hr_t2.2.2.1
          refine lv_aload_n hx hb dX4_begins_0 rfl (lv_at hl 0 rfl) ?_
          refine lv_iload_n hx hb dX4_begins_1 rfl (lv_at hl 1 rfl) ?_
          refine xv_q (i := 0) (As := [.int (xI (t1 : Int))]) (rest := []) ⟨hx, hb, hml, hown, hts⟩ hl.1 (c_X4_textOf_in l D cA n ad en (by omega) hC t1 (by omega)) k_X4_textOf u_ml_RX4_97 hK hN hP (by omega) hC.1 rfl rfl rfl rfl (Nat.le_of_ble_eq_true rfl) ⟨Nat.le_of_ble_eq_true rfl, Nat.le_of_ble_eq_true rfl⟩ ⟨Nat.le_of_ble_eq_true rfl, Nat.le_of_ble_eq_true rfl⟩ dX4_begins_2 ?_
          refine lv_astore (lv' := [(4, .ref (ad (21 + 3 * t1))), (0, .ref (ad 0)), (1, .int (xI (t1 : Int))), (2, .int (xI (t2 : Int))), (3, .int (xI z3))]) hx hb dX4_begins_5 hl (by decide) rfl (fun ls hl => ?_)
          refine lv_aload_n hx hb dX4_begins_7 rfl (lv_at hl 1 rfl) ?_
          refine lv_iload_n hx hb dX4_begins_8 rfl (lv_at hl 3 rfl) ?_
          refine xv_q (i := 0) (As := [.int (xI (t2 : Int))]) (rest := []) ⟨hx, hb, hml, hown, hts⟩ hl.1 (c_X4_textOf_in l D cA n ad en (by omega) hC t2 (by omega)) k_X4_textOf u_ml_RX4_97 hK hN hP (by omega) hC.1 rfl rfl rfl rfl (Nat.le_of_ble_eq_true rfl) ⟨Nat.le_of_ble_eq_true rfl, Nat.le_of_ble_eq_true rfl⟩ ⟨Nat.le_of_ble_eq_true rfl, Nat.le_of_ble_eq_true rfl⟩ dX4_begins_9 ?_
          refine lv_astore (lv' := [(5, .ref (ad (21 + 3 * t2))), (4, .ref (ad (21 + 3 * t1))), (0, .ref (ad 0)), (1, .int (xI (t1 : Int))), (2, .int (xI (t2 : Int))), (3, .int (xI z3))]) hx hb dX4_begins_12 hl (by decide) rfl (fun ls hl => ?_)
          refine lv_aload hx hb dX4_begins_14 (lv_at hl 1 rfl) ?_
          refine lv_ifnull hx hb dX4_begins_16 ?_
          refine lv_aload hx hb dX4_begins_19 (lv_at hl 0 rfl) ?_
          refine lv_ifnonnull (tgt := 28) hx hb dX4_begins_21 (by decide) ?_
          refine lv_aload hx hb dX4_begins_28 (lv_at hl 1 rfl) ?_
          refine x_getn (T := TX3) (N := 2) hx hb hts uX3 hown hN hK hP (i := 21 + 3 * t1) (by omega) hT_t1.1 rfl 1 (by decide) (by simp only [xNest, List.mem_cons]; exact Or.inr (Or.inr (Or.inr (Or.inr (Or.inr (Or.inr (Or.inl rfl))))))) rfl dX4_begins_30 ?_
          refine x_if_ne (tgt := 44) hx hb dX4_begins_33 (by decide) (by omega) (fun c_33 => ?_) (fun c_33 => absurd c_33 (by omega))
          refine x_sipush hx hb dX4_begins_44 (by decide +kernel) ?_
          exact xr_i hx hb hrt hlocks ((by unfold am_begins; simp only [Int.toNat_natCast]; simp only [sp_get_s hS_t2]; rw [sp_if_f (by omega), sp_if_t (by simp [hS_t1, hS_t2])])) dX4_begins_47
      · have hT_t1 : XT cA ad en (21 + 3 * t1) none := by have q : XT cA ad en (21 + 3 * t1) (S.2.1 t1) := hC.rt h_t1; rw [hS_t1] at q; exact q
        refine lv_aload_n hx hb dX4_begins_0 rfl (lv_at hl 0 rfl) ?_
        refine lv_iload_n hx hb dX4_begins_1 rfl (lv_at hl 1 rfl) ?_
        refine xv_q (i := 0) (As := [.int (xI (t1 : Int))]) (rest := []) ⟨hx, hb, hml, hown, hts⟩ hl.1 (c_X4_textOf_in l D cA n ad en (by omega) hC t1 (by omega)) k_X4_textOf u_ml_RX4_97 hK hN hP (by omega) hC.1 rfl rfl rfl rfl (Nat.le_of_ble_eq_true rfl) ⟨Nat.le_of_ble_eq_true rfl, Nat.le_of_ble_eq_true rfl⟩ ⟨Nat.le_of_ble_eq_true rfl, Nat.le_of_ble_eq_true rfl⟩ dX4_begins_2 ?_
        refine lv_astore (lv' := [(4, .ref (ad (21 + 3 * t1))), (0, .ref (ad 0)), (1, .int (xI (t1 : Int))), (2, .int (xI z2)), (3, .int (xI z3))]) hx hb dX4_begins_5 hl (by decide) rfl (fun ls hl => ?_)
        refine lv_aload_n hx hb dX4_begins_7 rfl (lv_at hl 1 rfl) ?_
        refine lv_iload_n hx hb dX4_begins_8 rfl (lv_at hl 3 rfl) ?_
        refine xv_q (i := 0) (As := [.int (xI z2)]) (rest := []) ⟨hx, hb, hml, hown, hts⟩ hl.1 (c_X4_textOf_out l D cA n ad en (by omega) hC z2 (by omega) (by omega)) k_X4_textOf u_ml_RX4_97 hK hN hP (by omega) hC.1 rfl rfl rfl rfl (Nat.le_of_ble_eq_true rfl) ⟨Nat.le_of_ble_eq_true rfl, Nat.le_of_ble_eq_true rfl⟩ ⟨Nat.le_of_ble_eq_true rfl, Nat.le_of_ble_eq_true rfl⟩ dX4_begins_9 ?_
        refine lv_astoreN (lv' := [(5, .null), (4, .ref (ad (21 + 3 * t1))), (0, .ref (ad 0)), (1, .int (xI (t1 : Int))), (2, .int (xI z2)), (3, .int (xI z3))]) hx hb dX4_begins_12 hl (by decide) rfl (fun ls hl => ?_)
        refine lv_aload hx hb dX4_begins_14 (lv_at hl 1 rfl) ?_
        refine lv_ifnull hx hb dX4_begins_16 ?_
        refine lv_aloadN hx hb dX4_begins_19 (lv_at hl 0 rfl) ?_
        refine lv_ifnonnullN hx hb dX4_begins_21 ?_
        refine x_sipush hx hb dX4_begins_24 (by decide +kernel) ?_
        exact xr_i hx hb hrt hlocks ((by unfold am_begins; simp only [Int.toNat_natCast]; rw [sp_if_t (by omega)])) dX4_begins_27
    · rcases Classical.em (0 ≤ z2 ∧ z2 < 8) with hx_z2 | hx_z2
      · obtain ⟨t2, rfl⟩ : ∃ q : Nat, z2 = (q : Int) := ⟨z2.toNat, by omega⟩
        have h_t2 : t2 < 8 := by omega
        rcases hS_t2 : S.2.1 t2 with _ | r_t2
        · have hT_t1 : XT cA ad en (21 + 3 * t1) (some r_t1) := by have q : XT cA ad en (21 + 3 * t1) (S.2.1 t1) := hC.rt h_t1; rw [hS_t1] at q; exact q
          have hr_t1 := hT_t1.2
          have hm_t1 := hr_t1.2.2.1
          have hT_t2 : XT cA ad en (21 + 3 * t2) none := by have q : XT cA ad en (21 + 3 * t2) (S.2.1 t2) := hC.rt h_t2; rw [hS_t2] at q; exact q
          refine lv_aload_n hx hb dX4_begins_0 rfl (lv_at hl 0 rfl) ?_
          refine lv_iload_n hx hb dX4_begins_1 rfl (lv_at hl 1 rfl) ?_
          refine xv_q (i := 0) (As := [.int (xI (t1 : Int))]) (rest := []) ⟨hx, hb, hml, hown, hts⟩ hl.1 (c_X4_textOf_in l D cA n ad en (by omega) hC t1 (by omega)) k_X4_textOf u_ml_RX4_97 hK hN hP (by omega) hC.1 rfl rfl rfl rfl (Nat.le_of_ble_eq_true rfl) ⟨Nat.le_of_ble_eq_true rfl, Nat.le_of_ble_eq_true rfl⟩ ⟨Nat.le_of_ble_eq_true rfl, Nat.le_of_ble_eq_true rfl⟩ dX4_begins_2 ?_
          refine lv_astore (lv' := [(4, .ref (ad (21 + 3 * t1))), (0, .ref (ad 0)), (1, .int (xI (t1 : Int))), (2, .int (xI (t2 : Int))), (3, .int (xI z3))]) hx hb dX4_begins_5 hl (by decide) rfl (fun ls hl => ?_)
          refine lv_aload_n hx hb dX4_begins_7 rfl (lv_at hl 1 rfl) ?_
          refine lv_iload_n hx hb dX4_begins_8 rfl (lv_at hl 3 rfl) ?_
          refine xv_q (i := 0) (As := [.int (xI (t2 : Int))]) (rest := []) ⟨hx, hb, hml, hown, hts⟩ hl.1 (c_X4_textOf_in l D cA n ad en (by omega) hC t2 (by omega)) k_X4_textOf u_ml_RX4_97 hK hN hP (by omega) hC.1 rfl rfl rfl rfl (Nat.le_of_ble_eq_true rfl) ⟨Nat.le_of_ble_eq_true rfl, Nat.le_of_ble_eq_true rfl⟩ ⟨Nat.le_of_ble_eq_true rfl, Nat.le_of_ble_eq_true rfl⟩ dX4_begins_9 ?_
          refine lv_astore (lv' := [(5, .ref (ad (21 + 3 * t2))), (4, .ref (ad (21 + 3 * t1))), (0, .ref (ad 0)), (1, .int (xI (t1 : Int))), (2, .int (xI (t2 : Int))), (3, .int (xI z3))]) hx hb dX4_begins_12 hl (by decide) rfl (fun ls hl => ?_)
          refine lv_aload hx hb dX4_begins_14 (lv_at hl 1 rfl) ?_
          refine lv_ifnull hx hb dX4_begins_16 ?_
          refine lv_aload hx hb dX4_begins_19 (lv_at hl 0 rfl) ?_
          refine lv_ifnonnull (tgt := 28) hx hb dX4_begins_21 (by decide) ?_
          refine lv_aload hx hb dX4_begins_28 (lv_at hl 1 rfl) ?_
          refine x_getn (T := TX3) (N := 2) hx hb hts uX3 hown hN hK hP (i := 21 + 3 * t1) (by omega) hT_t1.1 rfl 1 (by decide) (by simp only [xNest, List.mem_cons]; exact Or.inr (Or.inr (Or.inr (Or.inr (Or.inr (Or.inr (Or.inl rfl))))))) rfl dX4_begins_30 ?_
          refine x_if_ne (tgt := 44) hx hb dX4_begins_33 (by decide) (by omega) (fun c_33 => absurd c_33 (by omega)) (fun c_33 => ?_)
          refine lv_aload hx hb dX4_begins_36 (lv_at hl 0 rfl) ?_
          refine x_getn (T := TX3) (N := 2) hx hb hts uX3 hown hN hK hP (i := 21 + 3 * t2) (by omega) hT_t2.1 rfl 1 (by decide) (by simp only [xNest, List.mem_cons]; exact Or.inr (Or.inr (Or.inr (Or.inr (Or.inr (Or.inr (Or.inl rfl))))))) rfl dX4_begins_38 ?_
          refine x_if_eq (tgt := 48) hx hb dX4_begins_41 (by decide) (by omega) (fun c_41 => absurd c_41 (by omega)) (fun c_41 => ?_)
          refine x_sipush hx hb dX4_begins_44 (by decide +kernel) ?_
          exact xr_i hx hb hrt hlocks ((by unfold am_begins; simp only [Int.toNat_natCast]; simp only [sp_get_s hS_t1]; rw [sp_if_f (by omega), sp_if_t (by simp [hS_t1, hS_t2])])) dX4_begins_47
        · have hT_t1 : XT cA ad en (21 + 3 * t1) (some r_t1) := by have q : XT cA ad en (21 + 3 * t1) (S.2.1 t1) := hC.rt h_t1; rw [hS_t1] at q; exact q
          have hr_t1 := hT_t1.2
          have hm_t1 := hr_t1.2.2.1
          have hT_t2 : XT cA ad en (21 + 3 * t2) (some r_t2) := by have q : XT cA ad en (21 + 3 * t2) (S.2.1 t2) := hC.rt h_t2; rw [hS_t2] at q; exact q
          have hr_t2 := hT_t2.2
          have hm_t2 := hr_t2.2.2.1
          refine lv_aload_n hx hb dX4_begins_0 rfl (lv_at hl 0 rfl) ?_
          refine lv_iload_n hx hb dX4_begins_1 rfl (lv_at hl 1 rfl) ?_
          refine xv_q (i := 0) (As := [.int (xI (t1 : Int))]) (rest := []) ⟨hx, hb, hml, hown, hts⟩ hl.1 (c_X4_textOf_in l D cA n ad en (by omega) hC t1 (by omega)) k_X4_textOf u_ml_RX4_97 hK hN hP (by omega) hC.1 rfl rfl rfl rfl (Nat.le_of_ble_eq_true rfl) ⟨Nat.le_of_ble_eq_true rfl, Nat.le_of_ble_eq_true rfl⟩ ⟨Nat.le_of_ble_eq_true rfl, Nat.le_of_ble_eq_true rfl⟩ dX4_begins_2 ?_
          refine lv_astore (lv' := [(4, .ref (ad (21 + 3 * t1))), (0, .ref (ad 0)), (1, .int (xI (t1 : Int))), (2, .int (xI (t2 : Int))), (3, .int (xI z3))]) hx hb dX4_begins_5 hl (by decide) rfl (fun ls hl => ?_)
          refine lv_aload_n hx hb dX4_begins_7 rfl (lv_at hl 1 rfl) ?_
          refine lv_iload_n hx hb dX4_begins_8 rfl (lv_at hl 3 rfl) ?_
          refine xv_q (i := 0) (As := [.int (xI (t2 : Int))]) (rest := []) ⟨hx, hb, hml, hown, hts⟩ hl.1 (c_X4_textOf_in l D cA n ad en (by omega) hC t2 (by omega)) k_X4_textOf u_ml_RX4_97 hK hN hP (by omega) hC.1 rfl rfl rfl rfl (Nat.le_of_ble_eq_true rfl) ⟨Nat.le_of_ble_eq_true rfl, Nat.le_of_ble_eq_true rfl⟩ ⟨Nat.le_of_ble_eq_true rfl, Nat.le_of_ble_eq_true rfl⟩ dX4_begins_9 ?_
          refine lv_astore (lv' := [(5, .ref (ad (21 + 3 * t2))), (4, .ref (ad (21 + 3 * t1))), (0, .ref (ad 0)), (1, .int (xI (t1 : Int))), (2, .int (xI (t2 : Int))), (3, .int (xI z3))]) hx hb dX4_begins_12 hl (by decide) rfl (fun ls hl => ?_)
          refine lv_aload hx hb dX4_begins_14 (lv_at hl 1 rfl) ?_
          refine lv_ifnull hx hb dX4_begins_16 ?_
          refine lv_aload hx hb dX4_begins_19 (lv_at hl 0 rfl) ?_
          refine lv_ifnonnull (tgt := 28) hx hb dX4_begins_21 (by decide) ?_
          refine lv_aload hx hb dX4_begins_28 (lv_at hl 1 rfl) ?_
          refine x_getn (T := TX3) (N := 2) hx hb hts uX3 hown hN hK hP (i := 21 + 3 * t1) (by omega) hT_t1.1 rfl 1 (by decide) (by simp only [xNest, List.mem_cons]; exact Or.inr (Or.inr (Or.inr (Or.inr (Or.inr (Or.inr (Or.inl rfl))))))) rfl dX4_begins_30 ?_
          refine x_if_ne (tgt := 44) hx hb dX4_begins_33 (by decide) (by omega) (fun c_33 => absurd c_33 (by omega)) (fun c_33 => ?_)
          refine lv_aload hx hb dX4_begins_36 (lv_at hl 0 rfl) ?_
          refine x_getn (T := TX3) (N := 2) hx hb hts uX3 hown hN hK hP (i := 21 + 3 * t2) (by omega) hT_t2.1 rfl 1 (by decide) (by simp only [xNest, List.mem_cons]; exact Or.inr (Or.inr (Or.inr (Or.inr (Or.inr (Or.inr (Or.inl rfl))))))) rfl dX4_begins_38 ?_
          refine x_if_eq (tgt := 48) hx hb dX4_begins_41 (by decide) (by omega) (fun c_41 => ?_) (fun c_41 => absurd c_41 (by omega))
          refine lv_aload hx hb dX4_begins_48 (lv_at hl 1 rfl) ?_
          refine x_getn (T := TX3) (N := 2) hx hb hts uX3 hown hN hK hP (i := 21 + 3 * t1) (by omega) hT_t1.1 rfl 0 (by decide) (by simp only [xNest, List.mem_cons]; exact Or.inr (Or.inr (Or.inr (Or.inr (Or.inr (Or.inl rfl)))))) rfl dX4_begins_50 ?_
          refine lv_aload hx hb dX4_begins_53 (lv_at hl 0 rfl) ?_
          refine x_getn (T := TX3) (N := 2) hx hb hts uX3 hown hN hK hP (i := 21 + 3 * t2) (by omega) hT_t2.1 rfl 0 (by decide) (by simp only [xNest, List.mem_cons]; exact Or.inr (Or.inr (Or.inr (Or.inr (Or.inr (Or.inl rfl)))))) rfl dX4_begins_55 ?_
          refine lv_iload_n hx hb dX4_begins_58 rfl (lv_at hl 5 rfl) ?_
          refine xv_i (i := 21 + 3 * t1 + 1) (As := [.ref (ad (21 + 3 * t2 + 1)), .int (xI z3)]) (rest := []) ⟨hx, hb, hml, hown, hts⟩ hl.1 (c_X2_hasStanding l D cA n ad en (by omega) hr_t1 (by omega) hr_t2 z3 (by omega)) k_X2_hasStanding u_ml_RX4_153 hK hN hP (by omega) hr_t1.1 rfl rfl rfl rfl (Nat.le_of_ble_eq_true rfl) ⟨Nat.le_of_ble_eq_true rfl, Nat.le_of_ble_eq_true rfl⟩ ⟨Nat.le_of_ble_eq_true rfl, Nat.le_of_ble_eq_true rfl⟩ dX4_begins_59 ?_
          refine x_ifb_eq (tgt := 69) hx hb dX4_begins_62 (by decide)  (fun c_62 => ?_) (fun c_62 => ?_)
          · refine x_iconst hx hb dX4_begins_69 ?_
            exact xr_i hx hb hrt hlocks ((by unfold am_begins; simp only [Int.toNat_natCast]; simp only [sp_get_s hS_t1, sp_get_s hS_t2]; rw [sp_if_f (by omega), sp_if_f (by simp [hS_t1, hS_t2])]; rw [xd_f c_62])) dX4_begins_70
          · refine x_iconst hx hb dX4_begins_65 ?_
            refine lv_goto (tgt := 70) hx hb dX4_begins_66 (by decide) ?_
            exact xr_i hx hb hrt hlocks ((by unfold am_begins; simp only [Int.toNat_natCast]; simp only [sp_get_s hS_t1, sp_get_s hS_t2]; rw [sp_if_f (by omega), sp_if_f (by simp [hS_t1, hS_t2])]; rw [xd_t c_62])) dX4_begins_70
      · have hT_t1 : XT cA ad en (21 + 3 * t1) (some r_t1) := by have q : XT cA ad en (21 + 3 * t1) (S.2.1 t1) := hC.rt h_t1; rw [hS_t1] at q; exact q
        have hr_t1 := hT_t1.2
        have hm_t1 := hr_t1.2.2.1
        refine lv_aload_n hx hb dX4_begins_0 rfl (lv_at hl 0 rfl) ?_
        refine lv_iload_n hx hb dX4_begins_1 rfl (lv_at hl 1 rfl) ?_
        refine xv_q (i := 0) (As := [.int (xI (t1 : Int))]) (rest := []) ⟨hx, hb, hml, hown, hts⟩ hl.1 (c_X4_textOf_in l D cA n ad en (by omega) hC t1 (by omega)) k_X4_textOf u_ml_RX4_97 hK hN hP (by omega) hC.1 rfl rfl rfl rfl (Nat.le_of_ble_eq_true rfl) ⟨Nat.le_of_ble_eq_true rfl, Nat.le_of_ble_eq_true rfl⟩ ⟨Nat.le_of_ble_eq_true rfl, Nat.le_of_ble_eq_true rfl⟩ dX4_begins_2 ?_
        refine lv_astore (lv' := [(4, .ref (ad (21 + 3 * t1))), (0, .ref (ad 0)), (1, .int (xI (t1 : Int))), (2, .int (xI z2)), (3, .int (xI z3))]) hx hb dX4_begins_5 hl (by decide) rfl (fun ls hl => ?_)
        refine lv_aload_n hx hb dX4_begins_7 rfl (lv_at hl 1 rfl) ?_
        refine lv_iload_n hx hb dX4_begins_8 rfl (lv_at hl 3 rfl) ?_
        refine xv_q (i := 0) (As := [.int (xI z2)]) (rest := []) ⟨hx, hb, hml, hown, hts⟩ hl.1 (c_X4_textOf_out l D cA n ad en (by omega) hC z2 (by omega) (by omega)) k_X4_textOf u_ml_RX4_97 hK hN hP (by omega) hC.1 rfl rfl rfl rfl (Nat.le_of_ble_eq_true rfl) ⟨Nat.le_of_ble_eq_true rfl, Nat.le_of_ble_eq_true rfl⟩ ⟨Nat.le_of_ble_eq_true rfl, Nat.le_of_ble_eq_true rfl⟩ dX4_begins_9 ?_
        refine lv_astoreN (lv' := [(5, .null), (4, .ref (ad (21 + 3 * t1))), (0, .ref (ad 0)), (1, .int (xI (t1 : Int))), (2, .int (xI z2)), (3, .int (xI z3))]) hx hb dX4_begins_12 hl (by decide) rfl (fun ls hl => ?_)
        refine lv_aload hx hb dX4_begins_14 (lv_at hl 1 rfl) ?_
        refine lv_ifnull hx hb dX4_begins_16 ?_
        refine lv_aloadN hx hb dX4_begins_19 (lv_at hl 0 rfl) ?_
        refine lv_ifnonnullN hx hb dX4_begins_21 ?_
        refine x_sipush hx hb dX4_begins_24 (by decide +kernel) ?_
        exact xr_i hx hb hrt hlocks ((by unfold am_begins; simp only [Int.toNat_natCast]; simp only [sp_get_s hS_t1]; rw [sp_if_t (by omega)])) dX4_begins_27
  · rcases Classical.em (0 ≤ z2 ∧ z2 < 8) with hx_z2 | hx_z2
    · obtain ⟨t2, rfl⟩ : ∃ q : Nat, z2 = (q : Int) := ⟨z2.toNat, by omega⟩
      have h_t2 : t2 < 8 := by omega
      rcases hS_t2 : S.2.1 t2 with _ | r_t2
      · have hT_t2 : XT cA ad en (21 + 3 * t2) none := by have q : XT cA ad en (21 + 3 * t2) (S.2.1 t2) := hC.rt h_t2; rw [hS_t2] at q; exact q
        refine lv_aload_n hx hb dX4_begins_0 rfl (lv_at hl 0 rfl) ?_
        refine lv_iload_n hx hb dX4_begins_1 rfl (lv_at hl 1 rfl) ?_
        refine xv_q (i := 0) (As := [.int (xI z1)]) (rest := []) ⟨hx, hb, hml, hown, hts⟩ hl.1 (c_X4_textOf_out l D cA n ad en (by omega) hC z1 (by omega) (by omega)) k_X4_textOf u_ml_RX4_97 hK hN hP (by omega) hC.1 rfl rfl rfl rfl (Nat.le_of_ble_eq_true rfl) ⟨Nat.le_of_ble_eq_true rfl, Nat.le_of_ble_eq_true rfl⟩ ⟨Nat.le_of_ble_eq_true rfl, Nat.le_of_ble_eq_true rfl⟩ dX4_begins_2 ?_
        refine lv_astoreN (lv' := [(4, .null), (0, .ref (ad 0)), (1, .int (xI z1)), (2, .int (xI (t2 : Int))), (3, .int (xI z3))]) hx hb dX4_begins_5 hl (by decide) rfl (fun ls hl => ?_)
        refine lv_aload_n hx hb dX4_begins_7 rfl (lv_at hl 1 rfl) ?_
        refine lv_iload_n hx hb dX4_begins_8 rfl (lv_at hl 3 rfl) ?_
        refine xv_q (i := 0) (As := [.int (xI (t2 : Int))]) (rest := []) ⟨hx, hb, hml, hown, hts⟩ hl.1 (c_X4_textOf_in l D cA n ad en (by omega) hC t2 (by omega)) k_X4_textOf u_ml_RX4_97 hK hN hP (by omega) hC.1 rfl rfl rfl rfl (Nat.le_of_ble_eq_true rfl) ⟨Nat.le_of_ble_eq_true rfl, Nat.le_of_ble_eq_true rfl⟩ ⟨Nat.le_of_ble_eq_true rfl, Nat.le_of_ble_eq_true rfl⟩ dX4_begins_9 ?_
        refine lv_astore (lv' := [(5, .ref (ad (21 + 3 * t2))), (4, .null), (0, .ref (ad 0)), (1, .int (xI z1)), (2, .int (xI (t2 : Int))), (3, .int (xI z3))]) hx hb dX4_begins_12 hl (by decide) rfl (fun ls hl => ?_)
        refine lv_aloadN hx hb dX4_begins_14 (lv_at hl 1 rfl) ?_
        refine lv_ifnullN (tgt := 24) hx hb dX4_begins_16 (by decide) ?_
        refine x_sipush hx hb dX4_begins_24 (by decide +kernel) ?_
        exact xr_i hx hb hrt hlocks ((by unfold am_begins; simp only [Int.toNat_natCast]; rw [sp_if_t (by omega)])) dX4_begins_27
      · have hT_t2 : XT cA ad en (21 + 3 * t2) (some r_t2) := by have q : XT cA ad en (21 + 3 * t2) (S.2.1 t2) := hC.rt h_t2; rw [hS_t2] at q; exact q
        have hr_t2 := hT_t2.2
        have hm_t2 := hr_t2.2.2.1
        refine lv_aload_n hx hb dX4_begins_0 rfl (lv_at hl 0 rfl) ?_
        refine lv_iload_n hx hb dX4_begins_1 rfl (lv_at hl 1 rfl) ?_
        refine xv_q (i := 0) (As := [.int (xI z1)]) (rest := []) ⟨hx, hb, hml, hown, hts⟩ hl.1 (c_X4_textOf_out l D cA n ad en (by omega) hC z1 (by omega) (by omega)) k_X4_textOf u_ml_RX4_97 hK hN hP (by omega) hC.1 rfl rfl rfl rfl (Nat.le_of_ble_eq_true rfl) ⟨Nat.le_of_ble_eq_true rfl, Nat.le_of_ble_eq_true rfl⟩ ⟨Nat.le_of_ble_eq_true rfl, Nat.le_of_ble_eq_true rfl⟩ dX4_begins_2 ?_
        refine lv_astoreN (lv' := [(4, .null), (0, .ref (ad 0)), (1, .int (xI z1)), (2, .int (xI (t2 : Int))), (3, .int (xI z3))]) hx hb dX4_begins_5 hl (by decide) rfl (fun ls hl => ?_)
        refine lv_aload_n hx hb dX4_begins_7 rfl (lv_at hl 1 rfl) ?_
        refine lv_iload_n hx hb dX4_begins_8 rfl (lv_at hl 3 rfl) ?_
        refine xv_q (i := 0) (As := [.int (xI (t2 : Int))]) (rest := []) ⟨hx, hb, hml, hown, hts⟩ hl.1 (c_X4_textOf_in l D cA n ad en (by omega) hC t2 (by omega)) k_X4_textOf u_ml_RX4_97 hK hN hP (by omega) hC.1 rfl rfl rfl rfl (Nat.le_of_ble_eq_true rfl) ⟨Nat.le_of_ble_eq_true rfl, Nat.le_of_ble_eq_true rfl⟩ ⟨Nat.le_of_ble_eq_true rfl, Nat.le_of_ble_eq_true rfl⟩ dX4_begins_9 ?_
        refine lv_astore (lv' := [(5, .ref (ad (21 + 3 * t2))), (4, .null), (0, .ref (ad 0)), (1, .int (xI z1)), (2, .int (xI (t2 : Int))), (3, .int (xI z3))]) hx hb dX4_begins_12 hl (by decide) rfl (fun ls hl => ?_)
        refine lv_aloadN hx hb dX4_begins_14 (lv_at hl 1 rfl) ?_
        refine lv_ifnullN (tgt := 24) hx hb dX4_begins_16 (by decide) ?_
        refine x_sipush hx hb dX4_begins_24 (by decide +kernel) ?_
        exact xr_i hx hb hrt hlocks ((by unfold am_begins; simp only [Int.toNat_natCast]; simp only [sp_get_s hS_t2]; rw [sp_if_t (by omega)])) dX4_begins_27
    · refine lv_aload_n hx hb dX4_begins_0 rfl (lv_at hl 0 rfl) ?_
      refine lv_iload_n hx hb dX4_begins_1 rfl (lv_at hl 1 rfl) ?_
      refine xv_q (i := 0) (As := [.int (xI z1)]) (rest := []) ⟨hx, hb, hml, hown, hts⟩ hl.1 (c_X4_textOf_out l D cA n ad en (by omega) hC z1 (by omega) (by omega)) k_X4_textOf u_ml_RX4_97 hK hN hP (by omega) hC.1 rfl rfl rfl rfl (Nat.le_of_ble_eq_true rfl) ⟨Nat.le_of_ble_eq_true rfl, Nat.le_of_ble_eq_true rfl⟩ ⟨Nat.le_of_ble_eq_true rfl, Nat.le_of_ble_eq_true rfl⟩ dX4_begins_2 ?_
      refine lv_astoreN (lv' := [(4, .null), (0, .ref (ad 0)), (1, .int (xI z1)), (2, .int (xI z2)), (3, .int (xI z3))]) hx hb dX4_begins_5 hl (by decide) rfl (fun ls hl => ?_)
      refine lv_aload_n hx hb dX4_begins_7 rfl (lv_at hl 1 rfl) ?_
      refine lv_iload_n hx hb dX4_begins_8 rfl (lv_at hl 3 rfl) ?_
      refine xv_q (i := 0) (As := [.int (xI z2)]) (rest := []) ⟨hx, hb, hml, hown, hts⟩ hl.1 (c_X4_textOf_out l D cA n ad en (by omega) hC z2 (by omega) (by omega)) k_X4_textOf u_ml_RX4_97 hK hN hP (by omega) hC.1 rfl rfl rfl rfl (Nat.le_of_ble_eq_true rfl) ⟨Nat.le_of_ble_eq_true rfl, Nat.le_of_ble_eq_true rfl⟩ ⟨Nat.le_of_ble_eq_true rfl, Nat.le_of_ble_eq_true rfl⟩ dX4_begins_9 ?_
      refine lv_astoreN (lv' := [(5, .null), (4, .null), (0, .ref (ad 0)), (1, .int (xI z1)), (2, .int (xI z2)), (3, .int (xI z3))]) hx hb dX4_begins_12 hl (by decide) rfl (fun ls hl => ?_)
      refine lv_aloadN hx hb dX4_begins_14 (lv_at hl 1 rfl) ?_
      refine lv_ifnullN (tgt := 24) hx hb dX4_begins_16 (by decide) ?_
      refine x_sipush hx hb dX4_begins_24 (by decide +kernel) ?_
      exact xr_i hx hb hrt hlocks ((by unfold am_begins; rw [sp_if_t (by omega)])) dX4_begins_27

set_option maxRecDepth 20000 in
theorem c_X4_swap (l : Launch) (D : va_G) (cA : Nat → ClassId) (n : Nat) (ad : Nat → Nat) (en : Nat → va_E) (sz : Nat) (hn : 53 ≤ n) {S : xSt} (hC : CW cA ad en S) (z1 : Int) (hz1 : -2147483648 ≤ z1 ∧ z1 ≤ 2147483647) (z2 : Int) (hz2 : -2147483648 ≤ z2 ∧ z2 ≤ 2147483647) (z3 : Int) (hz3 : -2147483648 ≤ z3 ∧ z3 ≤ 2147483647) (z4 : Int) (hz4 : -2147483648 ≤ z4 ∧ z4 ≤ 2147483647) : Met l yX4_swap (Cond.code yX4_swap cX4_swap 7 (some .int) :: xU) (xrm 3 73) (va_Pc [.ref (ad 0), .int (xI z1), .int (xI z2), .int (xI z3), .int (xI z4)] (xM D cA n ad en sz)) (va_Qi (fun r u => r = xI (am_swap S z1 z2 z3 z4).1 ∧ CW cA ad u (am_swap S z1 z2 z3 z4).2 ∧ xO 0 53 en u) (xE D n ad) (xA n ad sz)) 0 0 (xA n ad sz) := by
  refine xmet (by decide) (Nat.le_of_ble_eq_true rfl) (fun p e s mm args below meth c ls hx hb hrt hml hown hts hlocks hname hB hl => ?_)
  obtain ⟨⟨hP, hK, hN⟩, hsz, hDt⟩ := hB
  have hD : xD (xA n ad sz) n ad := xD_self hDt sz
  have hA : ∀ q : Nat, s.heap.size ≤ q → xA n ad sz q := fun q h => Or.inr (by rw [← hsz]; exact h)
  have hS : va_S (xA n ad sz) s.heap s.heap [] := va_S.rf
  have hown : s.vm.findClass RX4 = some mm.cls := hown
  have hl : lv_has ls 7 [(0, .ref (ad 0)), (1, .int (xI z1)), (2, .int (xI z2)), (3, .int (xI z3)), (4, .int (xI z4))] := hl
  rcases Classical.em (0 ≤ z1 ∧ z1 < 8) with hx_z1 | hx_z1
  · obtain ⟨t1, rfl⟩ : ∃ q : Nat, z1 = (q : Int) := ⟨z1.toNat, by omega⟩
    have h_t1 : t1 < 8 := by omega
    rcases hS_t1 : S.2.1 t1 with _ | r_t1
    · rcases Classical.em (0 ≤ z4 ∧ z4 < 8) with hx_z4 | hx_z4
      · obtain ⟨t4, rfl⟩ : ∃ q : Nat, z4 = (q : Int) := ⟨z4.toNat, by omega⟩
        have h_t4 : t4 < 8 := by omega
        have hT_t1 : XT cA ad en (21 + 3 * t1) none := by have q : XT cA ad en (21 + 3 * t1) (S.2.1 t1) := hC.rt h_t1; rw [hS_t1] at q; exact q
        have hT_t4 : XT cA ad en (21 + 3 * t4) (S.2.1 t4) := hC.rt h_t4
        obtain ⟨zm_t4, tm_t4, tf_t4, hO_t4, hr_t4⟩ := hT_t4.any
        refine lv_aload_n hx hb dX4_swap_0 rfl (lv_at hl 0 rfl) ?_
        refine lv_iload_n hx hb dX4_swap_1 rfl (lv_at hl 1 rfl) ?_
        refine xv_q (i := 0) (As := [.int (xI (t1 : Int))]) (rest := []) ⟨hx, hb, hml, hown, hts⟩ hl.1 (c_X4_textOf_in l D cA n ad en (by omega) hC t1 (by omega)) k_X4_textOf u_ml_RX4_97 hK hN hP (by omega) hC.1 rfl rfl rfl rfl (Nat.le_of_ble_eq_true rfl) ⟨Nat.le_of_ble_eq_true rfl, Nat.le_of_ble_eq_true rfl⟩ ⟨Nat.le_of_ble_eq_true rfl, Nat.le_of_ble_eq_true rfl⟩ dX4_swap_2 ?_
        refine lv_astore (lv' := [(5, .ref (ad (21 + 3 * t1))), (0, .ref (ad 0)), (1, .int (xI (t1 : Int))), (2, .int (xI z2)), (3, .int (xI z3)), (4, .int (xI (t4 : Int)))]) hx hb dX4_swap_5 hl (by decide) rfl (fun ls hl => ?_)
        refine lv_aload_n hx hb dX4_swap_7 rfl (lv_at hl 1 rfl) ?_
        refine lv_iload hx hb dX4_swap_8 (lv_at hl 5 rfl) ?_
        refine xv_q (i := 0) (As := [.int (xI (t4 : Int))]) (rest := []) ⟨hx, hb, hml, hown, hts⟩ hl.1 (c_X4_textOf_in l D cA n ad en (by omega) hC t4 (by omega)) k_X4_textOf u_ml_RX4_97 hK hN hP (by omega) hC.1 rfl rfl rfl rfl (Nat.le_of_ble_eq_true rfl) ⟨Nat.le_of_ble_eq_true rfl, Nat.le_of_ble_eq_true rfl⟩ ⟨Nat.le_of_ble_eq_true rfl, Nat.le_of_ble_eq_true rfl⟩ dX4_swap_10 ?_
        refine lv_astore (lv' := [(6, .ref (ad (21 + 3 * t4))), (5, .ref (ad (21 + 3 * t1))), (0, .ref (ad 0)), (1, .int (xI (t1 : Int))), (2, .int (xI z2)), (3, .int (xI z3)), (4, .int (xI (t4 : Int)))]) hx hb dX4_swap_13 hl (by decide) rfl (fun ls hl => ?_)
        refine lv_aload hx hb dX4_swap_15 (lv_at hl 1 rfl) ?_
        refine lv_ifnull hx hb dX4_swap_17 ?_
        refine lv_aload hx hb dX4_swap_20 (lv_at hl 0 rfl) ?_
        refine lv_ifnonnull (tgt := 29) hx hb dX4_swap_22 (by decide) ?_
        refine lv_iload_n hx hb dX4_swap_29 rfl (lv_at hl 4 rfl) ?_
        refine xt_i (As := [.int (xI z2)]) (rest := []) ⟨hx, hb, hml, hown, hts⟩ hl.1 (c_X4_isSign l z2 (by omega)) k_X4_isSign u_ml_RX4_56 rfl rfl (Nat.le_of_ble_eq_true rfl) ⟨Nat.le_of_ble_eq_true rfl, Nat.le_of_ble_eq_true rfl⟩ ⟨Nat.le_of_ble_eq_true rfl, Nat.le_of_ble_eq_true rfl⟩ dX4_swap_30 ?_
        refine x_ifb_eq (tgt := 43) hx hb dX4_swap_33 (by decide)  (fun c_33 => ?_) (fun c_33 => ?_)
        · refine x_sipush hx hb dX4_swap_43 (by decide +kernel) ?_
          exact xe_i hx hb hrt hlocks hP hS ((by unfold am_swap; simp only [Int.toNat_natCast]; rw [sp_if_f (by omega), sp_if_t (by omega)]; exact ⟨rfl, hC, xO.rf⟩)) dX4_swap_46
        · refine lv_iload_n hx hb dX4_swap_36 rfl (lv_at hl 5 rfl) ?_
          refine xt_i (As := [.int (xI z3)]) (rest := []) ⟨hx, hb, hml, hown, hts⟩ hl.1 (c_X4_isSign l z3 (by omega)) k_X4_isSign u_ml_RX4_56 rfl rfl (Nat.le_of_ble_eq_true rfl) ⟨Nat.le_of_ble_eq_true rfl, Nat.le_of_ble_eq_true rfl⟩ ⟨Nat.le_of_ble_eq_true rfl, Nat.le_of_ble_eq_true rfl⟩ dX4_swap_37 ?_
          refine x_ifb_ne (tgt := 47) hx hb dX4_swap_40 (by decide)  (fun c_40 => ?_) (fun c_40 => ?_)
          · refine lv_aload hx hb dX4_swap_47 (lv_at hl 1 rfl) ?_
            refine x_getn (T := TX3) (N := 2) hx hb hts uX3 hown hN hK hP (i := 21 + 3 * t1) (by omega) hT_t1.1 rfl 1 (by decide) (by simp only [xNest, List.mem_cons]; exact Or.inr (Or.inr (Or.inr (Or.inr (Or.inr (Or.inr (Or.inl rfl))))))) rfl dX4_swap_49 ?_
            refine x_if_eq (tgt := 59) hx hb dX4_swap_52 (by decide) (by omega) (fun c_52 => absurd c_52 (by omega)) (fun c_52 => ?_)
            refine x_sipush hx hb dX4_swap_55 (by decide +kernel) ?_
            exact xe_i hx hb hrt hlocks hP hS ((by unfold am_swap; simp only [Int.toNat_natCast]; rw [sp_if_f (by omega), sp_if_f (by omega), sp_if_t (by simp [hS_t1])]; exact ⟨rfl, hC, xO.rf⟩)) dX4_swap_58
          · refine x_sipush hx hb dX4_swap_43 (by decide +kernel) ?_
            exact xe_i hx hb hrt hlocks hP hS ((by unfold am_swap; simp only [Int.toNat_natCast]; rw [sp_if_f (by omega), sp_if_t (by omega)]; exact ⟨rfl, hC, xO.rf⟩)) dX4_swap_46
      · have hT_t1 : XT cA ad en (21 + 3 * t1) none := by have q : XT cA ad en (21 + 3 * t1) (S.2.1 t1) := hC.rt h_t1; rw [hS_t1] at q; exact q
        refine lv_aload_n hx hb dX4_swap_0 rfl (lv_at hl 0 rfl) ?_
        refine lv_iload_n hx hb dX4_swap_1 rfl (lv_at hl 1 rfl) ?_
        refine xv_q (i := 0) (As := [.int (xI (t1 : Int))]) (rest := []) ⟨hx, hb, hml, hown, hts⟩ hl.1 (c_X4_textOf_in l D cA n ad en (by omega) hC t1 (by omega)) k_X4_textOf u_ml_RX4_97 hK hN hP (by omega) hC.1 rfl rfl rfl rfl (Nat.le_of_ble_eq_true rfl) ⟨Nat.le_of_ble_eq_true rfl, Nat.le_of_ble_eq_true rfl⟩ ⟨Nat.le_of_ble_eq_true rfl, Nat.le_of_ble_eq_true rfl⟩ dX4_swap_2 ?_
        refine lv_astore (lv' := [(5, .ref (ad (21 + 3 * t1))), (0, .ref (ad 0)), (1, .int (xI (t1 : Int))), (2, .int (xI z2)), (3, .int (xI z3)), (4, .int (xI z4))]) hx hb dX4_swap_5 hl (by decide) rfl (fun ls hl => ?_)
        refine lv_aload_n hx hb dX4_swap_7 rfl (lv_at hl 1 rfl) ?_
        refine lv_iload hx hb dX4_swap_8 (lv_at hl 5 rfl) ?_
        refine xv_q (i := 0) (As := [.int (xI z4)]) (rest := []) ⟨hx, hb, hml, hown, hts⟩ hl.1 (c_X4_textOf_out l D cA n ad en (by omega) hC z4 (by omega) (by omega)) k_X4_textOf u_ml_RX4_97 hK hN hP (by omega) hC.1 rfl rfl rfl rfl (Nat.le_of_ble_eq_true rfl) ⟨Nat.le_of_ble_eq_true rfl, Nat.le_of_ble_eq_true rfl⟩ ⟨Nat.le_of_ble_eq_true rfl, Nat.le_of_ble_eq_true rfl⟩ dX4_swap_10 ?_
        refine lv_astoreN (lv' := [(6, .null), (5, .ref (ad (21 + 3 * t1))), (0, .ref (ad 0)), (1, .int (xI (t1 : Int))), (2, .int (xI z2)), (3, .int (xI z3)), (4, .int (xI z4))]) hx hb dX4_swap_13 hl (by decide) rfl (fun ls hl => ?_)
        refine lv_aload hx hb dX4_swap_15 (lv_at hl 1 rfl) ?_
        refine lv_ifnull hx hb dX4_swap_17 ?_
        refine lv_aloadN hx hb dX4_swap_20 (lv_at hl 0 rfl) ?_
        refine lv_ifnonnullN hx hb dX4_swap_22 ?_
        refine x_sipush hx hb dX4_swap_25 (by decide +kernel) ?_
        exact xe_i hx hb hrt hlocks hP hS ((by unfold am_swap; simp only [Int.toNat_natCast]; rw [sp_if_t (by omega)]; exact ⟨rfl, hC, xO.rf⟩)) dX4_swap_28
    · rcases Classical.em (0 ≤ z4 ∧ z4 < 8) with hx_z4 | hx_z4
      · obtain ⟨t4, rfl⟩ : ∃ q : Nat, z4 = (q : Int) := ⟨z4.toNat, by omega⟩
        have h_t4 : t4 < 8 := by omega
        have hT_t1 : XT cA ad en (21 + 3 * t1) (some r_t1) := by have q : XT cA ad en (21 + 3 * t1) (S.2.1 t1) := hC.rt h_t1; rw [hS_t1] at q; exact q
        have hr_t1 := hT_t1.2
        have hm_t1 := hr_t1.2.2.1
        have hT_t4 : XT cA ad en (21 + 3 * t4) (S.2.1 t4) := hC.rt h_t4
        obtain ⟨zm_t4, tm_t4, tf_t4, hO_t4, hr_t4⟩ := hT_t4.any
        refine lv_aload_n hx hb dX4_swap_0 rfl (lv_at hl 0 rfl) ?_
        refine lv_iload_n hx hb dX4_swap_1 rfl (lv_at hl 1 rfl) ?_
        refine xv_q (i := 0) (As := [.int (xI (t1 : Int))]) (rest := []) ⟨hx, hb, hml, hown, hts⟩ hl.1 (c_X4_textOf_in l D cA n ad en (by omega) hC t1 (by omega)) k_X4_textOf u_ml_RX4_97 hK hN hP (by omega) hC.1 rfl rfl rfl rfl (Nat.le_of_ble_eq_true rfl) ⟨Nat.le_of_ble_eq_true rfl, Nat.le_of_ble_eq_true rfl⟩ ⟨Nat.le_of_ble_eq_true rfl, Nat.le_of_ble_eq_true rfl⟩ dX4_swap_2 ?_
        refine lv_astore (lv' := [(5, .ref (ad (21 + 3 * t1))), (0, .ref (ad 0)), (1, .int (xI (t1 : Int))), (2, .int (xI z2)), (3, .int (xI z3)), (4, .int (xI (t4 : Int)))]) hx hb dX4_swap_5 hl (by decide) rfl (fun ls hl => ?_)
        refine lv_aload_n hx hb dX4_swap_7 rfl (lv_at hl 1 rfl) ?_
        refine lv_iload hx hb dX4_swap_8 (lv_at hl 5 rfl) ?_
        refine xv_q (i := 0) (As := [.int (xI (t4 : Int))]) (rest := []) ⟨hx, hb, hml, hown, hts⟩ hl.1 (c_X4_textOf_in l D cA n ad en (by omega) hC t4 (by omega)) k_X4_textOf u_ml_RX4_97 hK hN hP (by omega) hC.1 rfl rfl rfl rfl (Nat.le_of_ble_eq_true rfl) ⟨Nat.le_of_ble_eq_true rfl, Nat.le_of_ble_eq_true rfl⟩ ⟨Nat.le_of_ble_eq_true rfl, Nat.le_of_ble_eq_true rfl⟩ dX4_swap_10 ?_
        refine lv_astore (lv' := [(6, .ref (ad (21 + 3 * t4))), (5, .ref (ad (21 + 3 * t1))), (0, .ref (ad 0)), (1, .int (xI (t1 : Int))), (2, .int (xI z2)), (3, .int (xI z3)), (4, .int (xI (t4 : Int)))]) hx hb dX4_swap_13 hl (by decide) rfl (fun ls hl => ?_)
        refine lv_aload hx hb dX4_swap_15 (lv_at hl 1 rfl) ?_
        refine lv_ifnull hx hb dX4_swap_17 ?_
        refine lv_aload hx hb dX4_swap_20 (lv_at hl 0 rfl) ?_
        refine lv_ifnonnull (tgt := 29) hx hb dX4_swap_22 (by decide) ?_
        refine lv_iload_n hx hb dX4_swap_29 rfl (lv_at hl 4 rfl) ?_
        refine xt_i (As := [.int (xI z2)]) (rest := []) ⟨hx, hb, hml, hown, hts⟩ hl.1 (c_X4_isSign l z2 (by omega)) k_X4_isSign u_ml_RX4_56 rfl rfl (Nat.le_of_ble_eq_true rfl) ⟨Nat.le_of_ble_eq_true rfl, Nat.le_of_ble_eq_true rfl⟩ ⟨Nat.le_of_ble_eq_true rfl, Nat.le_of_ble_eq_true rfl⟩ dX4_swap_30 ?_
        refine x_ifb_eq (tgt := 43) hx hb dX4_swap_33 (by decide)  (fun c_33 => ?_) (fun c_33 => ?_)
        · refine x_sipush hx hb dX4_swap_43 (by decide +kernel) ?_
          exact xe_i hx hb hrt hlocks hP hS ((by unfold am_swap; simp only [Int.toNat_natCast]; simp only [sp_get_s hS_t1]; rw [sp_if_f (by omega), sp_if_t (by omega)]; exact ⟨rfl, hC, xO.rf⟩)) dX4_swap_46
        · refine lv_iload_n hx hb dX4_swap_36 rfl (lv_at hl 5 rfl) ?_
          refine xt_i (As := [.int (xI z3)]) (rest := []) ⟨hx, hb, hml, hown, hts⟩ hl.1 (c_X4_isSign l z3 (by omega)) k_X4_isSign u_ml_RX4_56 rfl rfl (Nat.le_of_ble_eq_true rfl) ⟨Nat.le_of_ble_eq_true rfl, Nat.le_of_ble_eq_true rfl⟩ ⟨Nat.le_of_ble_eq_true rfl, Nat.le_of_ble_eq_true rfl⟩ dX4_swap_37 ?_
          refine x_ifb_ne (tgt := 47) hx hb dX4_swap_40 (by decide)  (fun c_40 => ?_) (fun c_40 => ?_)
          · refine lv_aload hx hb dX4_swap_47 (lv_at hl 1 rfl) ?_
            refine x_getn (T := TX3) (N := 2) hx hb hts uX3 hown hN hK hP (i := 21 + 3 * t1) (by omega) hT_t1.1 rfl 1 (by decide) (by simp only [xNest, List.mem_cons]; exact Or.inr (Or.inr (Or.inr (Or.inr (Or.inr (Or.inr (Or.inl rfl))))))) rfl dX4_swap_49 ?_
            refine x_if_eq (tgt := 59) hx hb dX4_swap_52 (by decide) (by omega) (fun c_52 => ?_) (fun c_52 => absurd c_52 (by omega))
            refine lv_aload hx hb dX4_swap_59 (lv_at hl 0 rfl) ?_
            refine lv_aload hx hb dX4_swap_61 (lv_at hl 1 rfl) ?_
            refine x_getn (T := TX3) (N := 2) hx hb hts uX3 hown hN hK hP (i := 21 + 3 * t1) (by omega) hT_t1.1 rfl 0 (by decide) (by simp only [xNest, List.mem_cons]; exact Or.inr (Or.inr (Or.inr (Or.inr (Or.inr (Or.inl rfl)))))) rfl dX4_swap_63 ?_
            refine x_iconst hx hb dX4_swap_66 ?_
            refine lv_aload hx hb dX4_swap_67 (lv_at hl 1 rfl) ?_
            refine x_getn (T := TX3) (N := 2) hx hb hts uX3 hown hN hK hP (i := 21 + 3 * t1) (by omega) hT_t1.1 rfl 0 (by decide) (by simp only [xNest, List.mem_cons]; exact Or.inr (Or.inr (Or.inr (Or.inr (Or.inr (Or.inl rfl)))))) rfl dX4_swap_69 ?_
            refine x_getn (T := TX2) (N := 2) hx hb hts uX2 hown hN hK hP (i := 21 + 3 * t1 + 1) (by omega) hr_t1.1 rfl 1 (by decide) (by simp only [xNest, List.mem_cons]; exact Or.inr (Or.inl rfl)) rfl dX4_swap_72 ?_
            refine xm_i (i := 21 + 3 * t4) (As := [.ref (ad (21 + 3 * t1 + 1)), .int (xI 0), .int (xI (r_t1.1 : Int))]) (rest := []) ⟨hx, hb, hml, hown, hts⟩ hl.1 (c_X3_become l D cA n ad en _ (by omega) hT_t4 (by omega) hr_t1 (by omega) 0 (r_t1.1 : Int) (by omega) (by omega)) k_X3_become u_ml_RX4_129 hK hN hP (by omega) hO_t4 rfl rfl rfl rfl (Nat.le_of_ble_eq_true rfl) ⟨Nat.le_of_ble_eq_true rfl, Nat.le_of_ble_eq_true rfl⟩ ⟨Nat.le_of_ble_eq_true rfl, Nat.le_of_ble_eq_true rfl⟩ dX4_swap_75 hD hS hA (fun r1 en1 H locs hp1 hP hS => ?_)
            rcases hp1 with ⟨hsp, hrv, hx1, hoc⟩ | ⟨hsp, hrv, hu⟩
            · subst hrv
              have hC9 := hC.text h_t4 (hoc.mo (by omega) (by omega)) hx1
              have ho : xO 0 53 en en1 := hoc.mo (by omega) (by omega)
              refine lv_pop hx hb dX4_swap_78 rfl ?_
              refine lv_aload hx hb dX4_swap_79 (lv_at hl 0 rfl) ?_
              refine x_getn (T := TX3) (N := 2) hx hb hts uX3 hown hN hK hP (i := 21 + 3 * t4) (by omega) hx1.1 rfl 0 (by decide) (by simp only [xNest, List.mem_cons]; exact Or.inr (Or.inr (Or.inr (Or.inr (Or.inr (Or.inl rfl)))))) rfl dX4_swap_81 ?_
              refine lv_iload_n hx hb dX4_swap_84 rfl (lv_at hl 4 rfl) ?_
              refine lv_iload_n hx hb dX4_swap_85 rfl (lv_at hl 5 rfl) ?_
              refine xm_v (i := 21 + 3 * t4 + 1) (As := [.int (xI z2), .int (xI z3)]) (rest := []) ⟨hx, hb, hml, hown, hts⟩ hl.1 (c_X2_writeEach l D cA n ad en1 _ (by omega) hx1.2 z2 z3 (by omega) (by omega)) k_X2_writeEach u_ml_RX4_157 hK hN hP (by omega) hx1.2.1 rfl rfl rfl rfl (Nat.le_of_ble_eq_true rfl) ⟨Nat.le_of_ble_eq_true rfl, Nat.le_of_ble_eq_true rfl⟩ ⟨Nat.le_of_ble_eq_true rfl, Nat.le_of_ble_eq_true rfl⟩ dX4_swap_86 hD hS hA (fun en2 H locs hp2 hP hS => ?_)
              obtain ⟨hx9, hob⟩ := hp2
              have hT9 : XT cA ad en2 (21 + 3 * t4) (some (r_t1.1, fun q => if r_t1.2 q = z2 then z3 else r_t1.2 q)) := ⟨(hob _ (by omega)).trans hx1.1, hx9.to (by omega) (fun t _ => by simp only [show Int.toNat 0 + t = t from Nat.zero_add t])⟩
              have hC9 := hC.text h_t4 (xO.tr (hoc.mo (by omega) (by omega)) (hob.mo (by omega) (by omega))) hT9
              have ho : xO 0 53 en en2 := ho.tr (hob.mo (by omega) (by omega))
              refine lv_aload hx hb dX4_swap_89 (lv_at hl 0 rfl) ?_
              refine x_getn (T := TX3) (N := 2) hx hb hts uX3 hown hN hK hP (i := 21 + 3 * t4) (by omega) hT9.1 rfl 0 (by decide) (by simp only [xNest, List.mem_cons]; exact Or.inr (Or.inr (Or.inr (Or.inr (Or.inr (Or.inl rfl)))))) rfl dX4_swap_91 ?_
              refine x_getn (T := TX2) (N := 2) hx hb hts uX2 hown hN hK hP (i := 21 + 3 * t4 + 1) (by omega) hT9.2.1 rfl 1 (by decide) (by simp only [xNest, List.mem_cons]; exact Or.inr (Or.inl rfl)) rfl dX4_swap_94 ?_
              exact xe_i hx hb hrt hlocks hP hS ((by unfold am_swap; simp only [Int.toNat_natCast]; simp only [sp_get_s hS_t1]; rw [sp_if_f (by omega), sp_if_f (by omega), sp_if_f (by simp [hS_t1])]; exact ⟨rfl, hC9, ho⟩)) dX4_swap_97
            · exact absurd (by omega) hsp
          · refine x_sipush hx hb dX4_swap_43 (by decide +kernel) ?_
            exact xe_i hx hb hrt hlocks hP hS ((by unfold am_swap; simp only [Int.toNat_natCast]; simp only [sp_get_s hS_t1]; rw [sp_if_f (by omega), sp_if_t (by omega)]; exact ⟨rfl, hC, xO.rf⟩)) dX4_swap_46
      · have hT_t1 : XT cA ad en (21 + 3 * t1) (some r_t1) := by have q : XT cA ad en (21 + 3 * t1) (S.2.1 t1) := hC.rt h_t1; rw [hS_t1] at q; exact q
        have hr_t1 := hT_t1.2
        have hm_t1 := hr_t1.2.2.1
        refine lv_aload_n hx hb dX4_swap_0 rfl (lv_at hl 0 rfl) ?_
        refine lv_iload_n hx hb dX4_swap_1 rfl (lv_at hl 1 rfl) ?_
        refine xv_q (i := 0) (As := [.int (xI (t1 : Int))]) (rest := []) ⟨hx, hb, hml, hown, hts⟩ hl.1 (c_X4_textOf_in l D cA n ad en (by omega) hC t1 (by omega)) k_X4_textOf u_ml_RX4_97 hK hN hP (by omega) hC.1 rfl rfl rfl rfl (Nat.le_of_ble_eq_true rfl) ⟨Nat.le_of_ble_eq_true rfl, Nat.le_of_ble_eq_true rfl⟩ ⟨Nat.le_of_ble_eq_true rfl, Nat.le_of_ble_eq_true rfl⟩ dX4_swap_2 ?_
        refine lv_astore (lv' := [(5, .ref (ad (21 + 3 * t1))), (0, .ref (ad 0)), (1, .int (xI (t1 : Int))), (2, .int (xI z2)), (3, .int (xI z3)), (4, .int (xI z4))]) hx hb dX4_swap_5 hl (by decide) rfl (fun ls hl => ?_)
        refine lv_aload_n hx hb dX4_swap_7 rfl (lv_at hl 1 rfl) ?_
        refine lv_iload hx hb dX4_swap_8 (lv_at hl 5 rfl) ?_
        refine xv_q (i := 0) (As := [.int (xI z4)]) (rest := []) ⟨hx, hb, hml, hown, hts⟩ hl.1 (c_X4_textOf_out l D cA n ad en (by omega) hC z4 (by omega) (by omega)) k_X4_textOf u_ml_RX4_97 hK hN hP (by omega) hC.1 rfl rfl rfl rfl (Nat.le_of_ble_eq_true rfl) ⟨Nat.le_of_ble_eq_true rfl, Nat.le_of_ble_eq_true rfl⟩ ⟨Nat.le_of_ble_eq_true rfl, Nat.le_of_ble_eq_true rfl⟩ dX4_swap_10 ?_
        refine lv_astoreN (lv' := [(6, .null), (5, .ref (ad (21 + 3 * t1))), (0, .ref (ad 0)), (1, .int (xI (t1 : Int))), (2, .int (xI z2)), (3, .int (xI z3)), (4, .int (xI z4))]) hx hb dX4_swap_13 hl (by decide) rfl (fun ls hl => ?_)
        refine lv_aload hx hb dX4_swap_15 (lv_at hl 1 rfl) ?_
        refine lv_ifnull hx hb dX4_swap_17 ?_
        refine lv_aloadN hx hb dX4_swap_20 (lv_at hl 0 rfl) ?_
        refine lv_ifnonnullN hx hb dX4_swap_22 ?_
        refine x_sipush hx hb dX4_swap_25 (by decide +kernel) ?_
        exact xe_i hx hb hrt hlocks hP hS ((by unfold am_swap; simp only [Int.toNat_natCast]; simp only [sp_get_s hS_t1]; rw [sp_if_t (by omega)]; exact ⟨rfl, hC, xO.rf⟩)) dX4_swap_28
  · rcases Classical.em (0 ≤ z4 ∧ z4 < 8) with hx_z4 | hx_z4
    · obtain ⟨t4, rfl⟩ : ∃ q : Nat, z4 = (q : Int) := ⟨z4.toNat, by omega⟩
      have h_t4 : t4 < 8 := by omega
      have hT_t4 : XT cA ad en (21 + 3 * t4) (S.2.1 t4) := hC.rt h_t4
      obtain ⟨zm_t4, tm_t4, tf_t4, hO_t4, hr_t4⟩ := hT_t4.any
      refine lv_aload_n hx hb dX4_swap_0 rfl (lv_at hl 0 rfl) ?_
      refine lv_iload_n hx hb dX4_swap_1 rfl (lv_at hl 1 rfl) ?_
      refine xv_q (i := 0) (As := [.int (xI z1)]) (rest := []) ⟨hx, hb, hml, hown, hts⟩ hl.1 (c_X4_textOf_out l D cA n ad en (by omega) hC z1 (by omega) (by omega)) k_X4_textOf u_ml_RX4_97 hK hN hP (by omega) hC.1 rfl rfl rfl rfl (Nat.le_of_ble_eq_true rfl) ⟨Nat.le_of_ble_eq_true rfl, Nat.le_of_ble_eq_true rfl⟩ ⟨Nat.le_of_ble_eq_true rfl, Nat.le_of_ble_eq_true rfl⟩ dX4_swap_2 ?_
      refine lv_astoreN (lv' := [(5, .null), (0, .ref (ad 0)), (1, .int (xI z1)), (2, .int (xI z2)), (3, .int (xI z3)), (4, .int (xI (t4 : Int)))]) hx hb dX4_swap_5 hl (by decide) rfl (fun ls hl => ?_)
      refine lv_aload_n hx hb dX4_swap_7 rfl (lv_at hl 1 rfl) ?_
      refine lv_iload hx hb dX4_swap_8 (lv_at hl 5 rfl) ?_
      refine xv_q (i := 0) (As := [.int (xI (t4 : Int))]) (rest := []) ⟨hx, hb, hml, hown, hts⟩ hl.1 (c_X4_textOf_in l D cA n ad en (by omega) hC t4 (by omega)) k_X4_textOf u_ml_RX4_97 hK hN hP (by omega) hC.1 rfl rfl rfl rfl (Nat.le_of_ble_eq_true rfl) ⟨Nat.le_of_ble_eq_true rfl, Nat.le_of_ble_eq_true rfl⟩ ⟨Nat.le_of_ble_eq_true rfl, Nat.le_of_ble_eq_true rfl⟩ dX4_swap_10 ?_
      refine lv_astore (lv' := [(6, .ref (ad (21 + 3 * t4))), (5, .null), (0, .ref (ad 0)), (1, .int (xI z1)), (2, .int (xI z2)), (3, .int (xI z3)), (4, .int (xI (t4 : Int)))]) hx hb dX4_swap_13 hl (by decide) rfl (fun ls hl => ?_)
      refine lv_aloadN hx hb dX4_swap_15 (lv_at hl 1 rfl) ?_
      refine lv_ifnullN (tgt := 25) hx hb dX4_swap_17 (by decide) ?_
      refine x_sipush hx hb dX4_swap_25 (by decide +kernel) ?_
      exact xe_i hx hb hrt hlocks hP hS ((by unfold am_swap; simp only [Int.toNat_natCast]; rw [sp_if_t (by omega)]; exact ⟨rfl, hC, xO.rf⟩)) dX4_swap_28
    · refine lv_aload_n hx hb dX4_swap_0 rfl (lv_at hl 0 rfl) ?_
      refine lv_iload_n hx hb dX4_swap_1 rfl (lv_at hl 1 rfl) ?_
      refine xv_q (i := 0) (As := [.int (xI z1)]) (rest := []) ⟨hx, hb, hml, hown, hts⟩ hl.1 (c_X4_textOf_out l D cA n ad en (by omega) hC z1 (by omega) (by omega)) k_X4_textOf u_ml_RX4_97 hK hN hP (by omega) hC.1 rfl rfl rfl rfl (Nat.le_of_ble_eq_true rfl) ⟨Nat.le_of_ble_eq_true rfl, Nat.le_of_ble_eq_true rfl⟩ ⟨Nat.le_of_ble_eq_true rfl, Nat.le_of_ble_eq_true rfl⟩ dX4_swap_2 ?_
      refine lv_astoreN (lv' := [(5, .null), (0, .ref (ad 0)), (1, .int (xI z1)), (2, .int (xI z2)), (3, .int (xI z3)), (4, .int (xI z4))]) hx hb dX4_swap_5 hl (by decide) rfl (fun ls hl => ?_)
      refine lv_aload_n hx hb dX4_swap_7 rfl (lv_at hl 1 rfl) ?_
      refine lv_iload hx hb dX4_swap_8 (lv_at hl 5 rfl) ?_
      refine xv_q (i := 0) (As := [.int (xI z4)]) (rest := []) ⟨hx, hb, hml, hown, hts⟩ hl.1 (c_X4_textOf_out l D cA n ad en (by omega) hC z4 (by omega) (by omega)) k_X4_textOf u_ml_RX4_97 hK hN hP (by omega) hC.1 rfl rfl rfl rfl (Nat.le_of_ble_eq_true rfl) ⟨Nat.le_of_ble_eq_true rfl, Nat.le_of_ble_eq_true rfl⟩ ⟨Nat.le_of_ble_eq_true rfl, Nat.le_of_ble_eq_true rfl⟩ dX4_swap_10 ?_
      refine lv_astoreN (lv' := [(6, .null), (5, .null), (0, .ref (ad 0)), (1, .int (xI z1)), (2, .int (xI z2)), (3, .int (xI z3)), (4, .int (xI z4))]) hx hb dX4_swap_13 hl (by decide) rfl (fun ls hl => ?_)
      refine lv_aloadN hx hb dX4_swap_15 (lv_at hl 1 rfl) ?_
      refine lv_ifnullN (tgt := 25) hx hb dX4_swap_17 (by decide) ?_
      refine x_sipush hx hb dX4_swap_25 (by decide +kernel) ?_
      exact xe_i hx hb hrt hlocks hP hS ((by unfold am_swap; rw [sp_if_t (by omega)]; exact ⟨rfl, hC, xO.rf⟩)) dX4_swap_28

set_option maxRecDepth 20000 in
theorem c_X4_sub (l : Launch) (D : va_G) (cA : Nat → ClassId) (n : Nat) (ad : Nat → Nat) (en : Nat → va_E) (sz : Nat) (hn : 53 ≤ n) {S : xSt} (hC : CW cA ad en S) (z1 : Int) (hz1 : -2147483648 ≤ z1 ∧ z1 ≤ 2147483647) (z2 : Int) (hz2 : -2147483648 ≤ z2 ∧ z2 ≤ 2147483647) (z3 : Int) (hz3 : -2147483648 ≤ z3 ∧ z3 ≤ 2147483647) (z4 : Int) (hz4 : -2147483648 ≤ z4 ∧ z4 ≤ 2147483647) : Met l yX4_sub (Cond.code yX4_sub cX4_sub 7 (some .int) :: xU) (xrm 3 73) (va_Pc [.ref (ad 0), .int (xI z1), .int (xI z2), .int (xI z3), .int (xI z4)] (xM D cA n ad en sz)) (va_Qi (fun r u => r = xI (am_sub S z1 z2 z3 z4).1 ∧ CW cA ad u (am_sub S z1 z2 z3 z4).2 ∧ xO 0 53 en u) (xE D n ad) (xA n ad sz)) 0 0 (xA n ad sz) := by
  refine xmet (by decide) (Nat.le_of_ble_eq_true rfl) (fun p e s mm args below meth c ls hx hb hrt hml hown hts hlocks hname hB hl => ?_)
  obtain ⟨⟨hP, hK, hN⟩, hsz, hDt⟩ := hB
  have hD : xD (xA n ad sz) n ad := xD_self hDt sz
  have hA : ∀ q : Nat, s.heap.size ≤ q → xA n ad sz q := fun q h => Or.inr (by rw [← hsz]; exact h)
  have hS : va_S (xA n ad sz) s.heap s.heap [] := va_S.rf
  have hown : s.vm.findClass RX4 = some mm.cls := hown
  have hl : lv_has ls 7 [(0, .ref (ad 0)), (1, .int (xI z1)), (2, .int (xI z2)), (3, .int (xI z3)), (4, .int (xI z4))] := hl
  rcases Classical.em (0 ≤ z1 ∧ z1 < 8) with hx_z1 | hx_z1
  · obtain ⟨t1, rfl⟩ : ∃ q : Nat, z1 = (q : Int) := ⟨z1.toNat, by omega⟩
    have h_t1 : t1 < 8 := by omega
    rcases hS_t1 : S.2.1 t1 with _ | r_t1
    · rcases Classical.em (0 ≤ z4 ∧ z4 < 8) with hx_z4 | hx_z4
      · obtain ⟨t4, rfl⟩ : ∃ q : Nat, z4 = (q : Int) := ⟨z4.toNat, by omega⟩
        have h_t4 : t4 < 8 := by omega
        have hT_t1 : XT cA ad en (21 + 3 * t1) none := by have q : XT cA ad en (21 + 3 * t1) (S.2.1 t1) := hC.rt h_t1; rw [hS_t1] at q; exact q
        have hT_t4 : XT cA ad en (21 + 3 * t4) (S.2.1 t4) := hC.rt h_t4
        obtain ⟨zm_t4, tm_t4, tf_t4, hO_t4, hr_t4⟩ := hT_t4.any
        refine lv_aload_n hx hb dX4_sub_0 rfl (lv_at hl 0 rfl) ?_
        refine lv_iload_n hx hb dX4_sub_1 rfl (lv_at hl 1 rfl) ?_
        refine xv_q (i := 0) (As := [.int (xI (t1 : Int))]) (rest := []) ⟨hx, hb, hml, hown, hts⟩ hl.1 (c_X4_textOf_in l D cA n ad en (by omega) hC t1 (by omega)) k_X4_textOf u_ml_RX4_97 hK hN hP (by omega) hC.1 rfl rfl rfl rfl (Nat.le_of_ble_eq_true rfl) ⟨Nat.le_of_ble_eq_true rfl, Nat.le_of_ble_eq_true rfl⟩ ⟨Nat.le_of_ble_eq_true rfl, Nat.le_of_ble_eq_true rfl⟩ dX4_sub_2 ?_
        refine lv_astore (lv' := [(5, .ref (ad (21 + 3 * t1))), (0, .ref (ad 0)), (1, .int (xI (t1 : Int))), (2, .int (xI z2)), (3, .int (xI z3)), (4, .int (xI (t4 : Int)))]) hx hb dX4_sub_5 hl (by decide) rfl (fun ls hl => ?_)
        refine lv_aload_n hx hb dX4_sub_7 rfl (lv_at hl 1 rfl) ?_
        refine lv_iload hx hb dX4_sub_8 (lv_at hl 5 rfl) ?_
        refine xv_q (i := 0) (As := [.int (xI (t4 : Int))]) (rest := []) ⟨hx, hb, hml, hown, hts⟩ hl.1 (c_X4_textOf_in l D cA n ad en (by omega) hC t4 (by omega)) k_X4_textOf u_ml_RX4_97 hK hN hP (by omega) hC.1 rfl rfl rfl rfl (Nat.le_of_ble_eq_true rfl) ⟨Nat.le_of_ble_eq_true rfl, Nat.le_of_ble_eq_true rfl⟩ ⟨Nat.le_of_ble_eq_true rfl, Nat.le_of_ble_eq_true rfl⟩ dX4_sub_10 ?_
        refine lv_astore (lv' := [(6, .ref (ad (21 + 3 * t4))), (5, .ref (ad (21 + 3 * t1))), (0, .ref (ad 0)), (1, .int (xI (t1 : Int))), (2, .int (xI z2)), (3, .int (xI z3)), (4, .int (xI (t4 : Int)))]) hx hb dX4_sub_13 hl (by decide) rfl (fun ls hl => ?_)
        refine lv_aload hx hb dX4_sub_15 (lv_at hl 1 rfl) ?_
        refine lv_ifnull hx hb dX4_sub_17 ?_
        refine lv_aload hx hb dX4_sub_20 (lv_at hl 0 rfl) ?_
        refine lv_ifnonnull (tgt := 29) hx hb dX4_sub_22 (by decide) ?_
        refine lv_aload hx hb dX4_sub_29 (lv_at hl 1 rfl) ?_
        refine x_getn (T := TX3) (N := 2) hx hb hts uX3 hown hN hK hP (i := 21 + 3 * t1) (by omega) hT_t1.1 rfl 1 (by decide) (by simp only [xNest, List.mem_cons]; exact Or.inr (Or.inr (Or.inr (Or.inr (Or.inr (Or.inr (Or.inl rfl))))))) rfl dX4_sub_31 ?_
        refine x_if_eq (tgt := 43) hx hb dX4_sub_34 (by decide) (by omega) (fun c_34 => absurd c_34 (by omega)) (fun c_34 => ?_)
        refine x_sipush hx hb dX4_sub_37 (by decide +kernel) ?_
        refine lv_goto (tgt := 55) hx hb dX4_sub_40 (by decide) ?_
        exact xe_i hx hb hrt hlocks hP hS ((by unfold am_sub; simp only [Int.toNat_natCast]; rw [sp_if_f (by omega), sp_if_t (by simp [hS_t1])]; exact ⟨rfl, hC, xO.rf⟩)) dX4_sub_55
      · have hT_t1 : XT cA ad en (21 + 3 * t1) none := by have q : XT cA ad en (21 + 3 * t1) (S.2.1 t1) := hC.rt h_t1; rw [hS_t1] at q; exact q
        refine lv_aload_n hx hb dX4_sub_0 rfl (lv_at hl 0 rfl) ?_
        refine lv_iload_n hx hb dX4_sub_1 rfl (lv_at hl 1 rfl) ?_
        refine xv_q (i := 0) (As := [.int (xI (t1 : Int))]) (rest := []) ⟨hx, hb, hml, hown, hts⟩ hl.1 (c_X4_textOf_in l D cA n ad en (by omega) hC t1 (by omega)) k_X4_textOf u_ml_RX4_97 hK hN hP (by omega) hC.1 rfl rfl rfl rfl (Nat.le_of_ble_eq_true rfl) ⟨Nat.le_of_ble_eq_true rfl, Nat.le_of_ble_eq_true rfl⟩ ⟨Nat.le_of_ble_eq_true rfl, Nat.le_of_ble_eq_true rfl⟩ dX4_sub_2 ?_
        refine lv_astore (lv' := [(5, .ref (ad (21 + 3 * t1))), (0, .ref (ad 0)), (1, .int (xI (t1 : Int))), (2, .int (xI z2)), (3, .int (xI z3)), (4, .int (xI z4))]) hx hb dX4_sub_5 hl (by decide) rfl (fun ls hl => ?_)
        refine lv_aload_n hx hb dX4_sub_7 rfl (lv_at hl 1 rfl) ?_
        refine lv_iload hx hb dX4_sub_8 (lv_at hl 5 rfl) ?_
        refine xv_q (i := 0) (As := [.int (xI z4)]) (rest := []) ⟨hx, hb, hml, hown, hts⟩ hl.1 (c_X4_textOf_out l D cA n ad en (by omega) hC z4 (by omega) (by omega)) k_X4_textOf u_ml_RX4_97 hK hN hP (by omega) hC.1 rfl rfl rfl rfl (Nat.le_of_ble_eq_true rfl) ⟨Nat.le_of_ble_eq_true rfl, Nat.le_of_ble_eq_true rfl⟩ ⟨Nat.le_of_ble_eq_true rfl, Nat.le_of_ble_eq_true rfl⟩ dX4_sub_10 ?_
        refine lv_astoreN (lv' := [(6, .null), (5, .ref (ad (21 + 3 * t1))), (0, .ref (ad 0)), (1, .int (xI (t1 : Int))), (2, .int (xI z2)), (3, .int (xI z3)), (4, .int (xI z4))]) hx hb dX4_sub_13 hl (by decide) rfl (fun ls hl => ?_)
        refine lv_aload hx hb dX4_sub_15 (lv_at hl 1 rfl) ?_
        refine lv_ifnull hx hb dX4_sub_17 ?_
        refine lv_aloadN hx hb dX4_sub_20 (lv_at hl 0 rfl) ?_
        refine lv_ifnonnullN hx hb dX4_sub_22 ?_
        refine x_sipush hx hb dX4_sub_25 (by decide +kernel) ?_
        exact xe_i hx hb hrt hlocks hP hS ((by unfold am_sub; simp only [Int.toNat_natCast]; rw [sp_if_t (by omega)]; exact ⟨rfl, hC, xO.rf⟩)) dX4_sub_28
    · rcases Classical.em (0 ≤ z4 ∧ z4 < 8) with hx_z4 | hx_z4
      · obtain ⟨t4, rfl⟩ : ∃ q : Nat, z4 = (q : Int) := ⟨z4.toNat, by omega⟩
        have h_t4 : t4 < 8 := by omega
        have hT_t1 : XT cA ad en (21 + 3 * t1) (some r_t1) := by have q : XT cA ad en (21 + 3 * t1) (S.2.1 t1) := hC.rt h_t1; rw [hS_t1] at q; exact q
        have hr_t1 := hT_t1.2
        have hm_t1 := hr_t1.2.2.1
        have hT_t4 : XT cA ad en (21 + 3 * t4) (S.2.1 t4) := hC.rt h_t4
        obtain ⟨zm_t4, tm_t4, tf_t4, hO_t4, hr_t4⟩ := hT_t4.any
        refine lv_aload_n hx hb dX4_sub_0 rfl (lv_at hl 0 rfl) ?_
        refine lv_iload_n hx hb dX4_sub_1 rfl (lv_at hl 1 rfl) ?_
        refine xv_q (i := 0) (As := [.int (xI (t1 : Int))]) (rest := []) ⟨hx, hb, hml, hown, hts⟩ hl.1 (c_X4_textOf_in l D cA n ad en (by omega) hC t1 (by omega)) k_X4_textOf u_ml_RX4_97 hK hN hP (by omega) hC.1 rfl rfl rfl rfl (Nat.le_of_ble_eq_true rfl) ⟨Nat.le_of_ble_eq_true rfl, Nat.le_of_ble_eq_true rfl⟩ ⟨Nat.le_of_ble_eq_true rfl, Nat.le_of_ble_eq_true rfl⟩ dX4_sub_2 ?_
        refine lv_astore (lv' := [(5, .ref (ad (21 + 3 * t1))), (0, .ref (ad 0)), (1, .int (xI (t1 : Int))), (2, .int (xI z2)), (3, .int (xI z3)), (4, .int (xI (t4 : Int)))]) hx hb dX4_sub_5 hl (by decide) rfl (fun ls hl => ?_)
        refine lv_aload_n hx hb dX4_sub_7 rfl (lv_at hl 1 rfl) ?_
        refine lv_iload hx hb dX4_sub_8 (lv_at hl 5 rfl) ?_
        refine xv_q (i := 0) (As := [.int (xI (t4 : Int))]) (rest := []) ⟨hx, hb, hml, hown, hts⟩ hl.1 (c_X4_textOf_in l D cA n ad en (by omega) hC t4 (by omega)) k_X4_textOf u_ml_RX4_97 hK hN hP (by omega) hC.1 rfl rfl rfl rfl (Nat.le_of_ble_eq_true rfl) ⟨Nat.le_of_ble_eq_true rfl, Nat.le_of_ble_eq_true rfl⟩ ⟨Nat.le_of_ble_eq_true rfl, Nat.le_of_ble_eq_true rfl⟩ dX4_sub_10 ?_
        refine lv_astore (lv' := [(6, .ref (ad (21 + 3 * t4))), (5, .ref (ad (21 + 3 * t1))), (0, .ref (ad 0)), (1, .int (xI (t1 : Int))), (2, .int (xI z2)), (3, .int (xI z3)), (4, .int (xI (t4 : Int)))]) hx hb dX4_sub_13 hl (by decide) rfl (fun ls hl => ?_)
        refine lv_aload hx hb dX4_sub_15 (lv_at hl 1 rfl) ?_
        refine lv_ifnull hx hb dX4_sub_17 ?_
        refine lv_aload hx hb dX4_sub_20 (lv_at hl 0 rfl) ?_
        refine lv_ifnonnull (tgt := 29) hx hb dX4_sub_22 (by decide) ?_
        refine lv_aload hx hb dX4_sub_29 (lv_at hl 1 rfl) ?_
        refine x_getn (T := TX3) (N := 2) hx hb hts uX3 hown hN hK hP (i := 21 + 3 * t1) (by omega) hT_t1.1 rfl 1 (by decide) (by simp only [xNest, List.mem_cons]; exact Or.inr (Or.inr (Or.inr (Or.inr (Or.inr (Or.inr (Or.inl rfl))))))) rfl dX4_sub_31 ?_
        refine x_if_eq (tgt := 43) hx hb dX4_sub_34 (by decide) (by omega) (fun c_34 => ?_) (fun c_34 => absurd c_34 (by omega))
        refine lv_aload hx hb dX4_sub_43 (lv_at hl 0 rfl) ?_
        refine lv_aload hx hb dX4_sub_45 (lv_at hl 1 rfl) ?_
        refine x_getn (T := TX3) (N := 2) hx hb hts uX3 hown hN hK hP (i := 21 + 3 * t1) (by omega) hT_t1.1 rfl 0 (by decide) (by simp only [xNest, List.mem_cons]; exact Or.inr (Or.inr (Or.inr (Or.inr (Or.inr (Or.inl rfl)))))) rfl dX4_sub_47 ?_
        refine lv_iload_n hx hb dX4_sub_50 rfl (lv_at hl 4 rfl) ?_
        refine lv_iload_n hx hb dX4_sub_51 rfl (lv_at hl 5 rfl) ?_
        refine xm_i (i := 21 + 3 * t4) (As := [.ref (ad (21 + 3 * t1 + 1)), .int (xI z2), .int (xI z3)]) (rest := []) ⟨hx, hb, hml, hown, hts⟩ hl.1 (c_X3_become l D cA n ad en _ (by omega) hT_t4 (by omega) hr_t1 (by omega) z2 z3 (by omega) (by omega)) k_X3_become u_ml_RX4_129 hK hN hP (by omega) hO_t4 rfl rfl rfl rfl (Nat.le_of_ble_eq_true rfl) ⟨Nat.le_of_ble_eq_true rfl, Nat.le_of_ble_eq_true rfl⟩ ⟨Nat.le_of_ble_eq_true rfl, Nat.le_of_ble_eq_true rfl⟩ dX4_sub_52 hD hS hA (fun r1 en1 H locs hp1 hP hS => ?_)
        rcases hp1 with ⟨hsp, hrv, hx1, hoc⟩ | ⟨hsp, hrv, hu⟩
        · subst hrv
          have hC9 := hC.text h_t4 (hoc.mo (by omega) (by omega)) hx1
          have ho : xO 0 53 en en1 := hoc.mo (by omega) (by omega)
          exact xe_i hx hb hrt hlocks hP hS ((by unfold am_sub; simp only [Int.toNat_natCast]; simp only [sp_get_s hS_t1]; rw [sp_if_f (by omega), sp_if_f (by simp [hS_t1]), sp_if_f (by omega)]; exact ⟨rfl, hC9, ho⟩)) dX4_sub_55
        · subst hrv
          rw [hu] at hP
          exact xe_i hx hb hrt hlocks hP hS ((by unfold am_sub; simp only [Int.toNat_natCast]; simp only [sp_get_s hS_t1]; rw [sp_if_f (by omega), sp_if_f (by simp [hS_t1]), sp_if_t (by omega)]; exact ⟨rfl, hC, xO.rf⟩)) dX4_sub_55
      · have hT_t1 : XT cA ad en (21 + 3 * t1) (some r_t1) := by have q : XT cA ad en (21 + 3 * t1) (S.2.1 t1) := hC.rt h_t1; rw [hS_t1] at q; exact q
        have hr_t1 := hT_t1.2
        have hm_t1 := hr_t1.2.2.1
        refine lv_aload_n hx hb dX4_sub_0 rfl (lv_at hl 0 rfl) ?_
        refine lv_iload_n hx hb dX4_sub_1 rfl (lv_at hl 1 rfl) ?_
        refine xv_q (i := 0) (As := [.int (xI (t1 : Int))]) (rest := []) ⟨hx, hb, hml, hown, hts⟩ hl.1 (c_X4_textOf_in l D cA n ad en (by omega) hC t1 (by omega)) k_X4_textOf u_ml_RX4_97 hK hN hP (by omega) hC.1 rfl rfl rfl rfl (Nat.le_of_ble_eq_true rfl) ⟨Nat.le_of_ble_eq_true rfl, Nat.le_of_ble_eq_true rfl⟩ ⟨Nat.le_of_ble_eq_true rfl, Nat.le_of_ble_eq_true rfl⟩ dX4_sub_2 ?_
        refine lv_astore (lv' := [(5, .ref (ad (21 + 3 * t1))), (0, .ref (ad 0)), (1, .int (xI (t1 : Int))), (2, .int (xI z2)), (3, .int (xI z3)), (4, .int (xI z4))]) hx hb dX4_sub_5 hl (by decide) rfl (fun ls hl => ?_)
        refine lv_aload_n hx hb dX4_sub_7 rfl (lv_at hl 1 rfl) ?_
        refine lv_iload hx hb dX4_sub_8 (lv_at hl 5 rfl) ?_
        refine xv_q (i := 0) (As := [.int (xI z4)]) (rest := []) ⟨hx, hb, hml, hown, hts⟩ hl.1 (c_X4_textOf_out l D cA n ad en (by omega) hC z4 (by omega) (by omega)) k_X4_textOf u_ml_RX4_97 hK hN hP (by omega) hC.1 rfl rfl rfl rfl (Nat.le_of_ble_eq_true rfl) ⟨Nat.le_of_ble_eq_true rfl, Nat.le_of_ble_eq_true rfl⟩ ⟨Nat.le_of_ble_eq_true rfl, Nat.le_of_ble_eq_true rfl⟩ dX4_sub_10 ?_
        refine lv_astoreN (lv' := [(6, .null), (5, .ref (ad (21 + 3 * t1))), (0, .ref (ad 0)), (1, .int (xI (t1 : Int))), (2, .int (xI z2)), (3, .int (xI z3)), (4, .int (xI z4))]) hx hb dX4_sub_13 hl (by decide) rfl (fun ls hl => ?_)
        refine lv_aload hx hb dX4_sub_15 (lv_at hl 1 rfl) ?_
        refine lv_ifnull hx hb dX4_sub_17 ?_
        refine lv_aloadN hx hb dX4_sub_20 (lv_at hl 0 rfl) ?_
        refine lv_ifnonnullN hx hb dX4_sub_22 ?_
        refine x_sipush hx hb dX4_sub_25 (by decide +kernel) ?_
        exact xe_i hx hb hrt hlocks hP hS ((by unfold am_sub; simp only [Int.toNat_natCast]; simp only [sp_get_s hS_t1]; rw [sp_if_t (by omega)]; exact ⟨rfl, hC, xO.rf⟩)) dX4_sub_28
  · rcases Classical.em (0 ≤ z4 ∧ z4 < 8) with hx_z4 | hx_z4
    · obtain ⟨t4, rfl⟩ : ∃ q : Nat, z4 = (q : Int) := ⟨z4.toNat, by omega⟩
      have h_t4 : t4 < 8 := by omega
      have hT_t4 : XT cA ad en (21 + 3 * t4) (S.2.1 t4) := hC.rt h_t4
      obtain ⟨zm_t4, tm_t4, tf_t4, hO_t4, hr_t4⟩ := hT_t4.any
      refine lv_aload_n hx hb dX4_sub_0 rfl (lv_at hl 0 rfl) ?_
      refine lv_iload_n hx hb dX4_sub_1 rfl (lv_at hl 1 rfl) ?_
      refine xv_q (i := 0) (As := [.int (xI z1)]) (rest := []) ⟨hx, hb, hml, hown, hts⟩ hl.1 (c_X4_textOf_out l D cA n ad en (by omega) hC z1 (by omega) (by omega)) k_X4_textOf u_ml_RX4_97 hK hN hP (by omega) hC.1 rfl rfl rfl rfl (Nat.le_of_ble_eq_true rfl) ⟨Nat.le_of_ble_eq_true rfl, Nat.le_of_ble_eq_true rfl⟩ ⟨Nat.le_of_ble_eq_true rfl, Nat.le_of_ble_eq_true rfl⟩ dX4_sub_2 ?_
      refine lv_astoreN (lv' := [(5, .null), (0, .ref (ad 0)), (1, .int (xI z1)), (2, .int (xI z2)), (3, .int (xI z3)), (4, .int (xI (t4 : Int)))]) hx hb dX4_sub_5 hl (by decide) rfl (fun ls hl => ?_)
      refine lv_aload_n hx hb dX4_sub_7 rfl (lv_at hl 1 rfl) ?_
      refine lv_iload hx hb dX4_sub_8 (lv_at hl 5 rfl) ?_
      refine xv_q (i := 0) (As := [.int (xI (t4 : Int))]) (rest := []) ⟨hx, hb, hml, hown, hts⟩ hl.1 (c_X4_textOf_in l D cA n ad en (by omega) hC t4 (by omega)) k_X4_textOf u_ml_RX4_97 hK hN hP (by omega) hC.1 rfl rfl rfl rfl (Nat.le_of_ble_eq_true rfl) ⟨Nat.le_of_ble_eq_true rfl, Nat.le_of_ble_eq_true rfl⟩ ⟨Nat.le_of_ble_eq_true rfl, Nat.le_of_ble_eq_true rfl⟩ dX4_sub_10 ?_
      refine lv_astore (lv' := [(6, .ref (ad (21 + 3 * t4))), (5, .null), (0, .ref (ad 0)), (1, .int (xI z1)), (2, .int (xI z2)), (3, .int (xI z3)), (4, .int (xI (t4 : Int)))]) hx hb dX4_sub_13 hl (by decide) rfl (fun ls hl => ?_)
      refine lv_aloadN hx hb dX4_sub_15 (lv_at hl 1 rfl) ?_
      refine lv_ifnullN (tgt := 25) hx hb dX4_sub_17 (by decide) ?_
      refine x_sipush hx hb dX4_sub_25 (by decide +kernel) ?_
      exact xe_i hx hb hrt hlocks hP hS ((by unfold am_sub; simp only [Int.toNat_natCast]; rw [sp_if_t (by omega)]; exact ⟨rfl, hC, xO.rf⟩)) dX4_sub_28
    · refine lv_aload_n hx hb dX4_sub_0 rfl (lv_at hl 0 rfl) ?_
      refine lv_iload_n hx hb dX4_sub_1 rfl (lv_at hl 1 rfl) ?_
      refine xv_q (i := 0) (As := [.int (xI z1)]) (rest := []) ⟨hx, hb, hml, hown, hts⟩ hl.1 (c_X4_textOf_out l D cA n ad en (by omega) hC z1 (by omega) (by omega)) k_X4_textOf u_ml_RX4_97 hK hN hP (by omega) hC.1 rfl rfl rfl rfl (Nat.le_of_ble_eq_true rfl) ⟨Nat.le_of_ble_eq_true rfl, Nat.le_of_ble_eq_true rfl⟩ ⟨Nat.le_of_ble_eq_true rfl, Nat.le_of_ble_eq_true rfl⟩ dX4_sub_2 ?_
      refine lv_astoreN (lv' := [(5, .null), (0, .ref (ad 0)), (1, .int (xI z1)), (2, .int (xI z2)), (3, .int (xI z3)), (4, .int (xI z4))]) hx hb dX4_sub_5 hl (by decide) rfl (fun ls hl => ?_)
      refine lv_aload_n hx hb dX4_sub_7 rfl (lv_at hl 1 rfl) ?_
      refine lv_iload hx hb dX4_sub_8 (lv_at hl 5 rfl) ?_
      refine xv_q (i := 0) (As := [.int (xI z4)]) (rest := []) ⟨hx, hb, hml, hown, hts⟩ hl.1 (c_X4_textOf_out l D cA n ad en (by omega) hC z4 (by omega) (by omega)) k_X4_textOf u_ml_RX4_97 hK hN hP (by omega) hC.1 rfl rfl rfl rfl (Nat.le_of_ble_eq_true rfl) ⟨Nat.le_of_ble_eq_true rfl, Nat.le_of_ble_eq_true rfl⟩ ⟨Nat.le_of_ble_eq_true rfl, Nat.le_of_ble_eq_true rfl⟩ dX4_sub_10 ?_
      refine lv_astoreN (lv' := [(6, .null), (5, .null), (0, .ref (ad 0)), (1, .int (xI z1)), (2, .int (xI z2)), (3, .int (xI z3)), (4, .int (xI z4))]) hx hb dX4_sub_13 hl (by decide) rfl (fun ls hl => ?_)
      refine lv_aloadN hx hb dX4_sub_15 (lv_at hl 1 rfl) ?_
      refine lv_ifnullN (tgt := 25) hx hb dX4_sub_17 (by decide) ?_
      refine x_sipush hx hb dX4_sub_25 (by decide +kernel) ?_
      exact xe_i hx hb hrt hlocks hP hS ((by unfold am_sub; rw [sp_if_t (by omega)]; exact ⟨rfl, hC, xO.rf⟩)) dX4_sub_28

set_option maxRecDepth 20000 in
theorem c_X4_trim (l : Launch) (D : va_G) (cA : Nat → ClassId) (n : Nat) (ad : Nat → Nat) (en : Nat → va_E) (sz : Nat) (hn : 53 ≤ n) {S : xSt} (hC : CW cA ad en S) (z1 : Int) (hz1 : -2147483648 ≤ z1 ∧ z1 ≤ 2147483647) (z2 : Int) (hz2 : -2147483648 ≤ z2 ∧ z2 ≤ 2147483647) : Met l yX4_trim (Cond.code yX4_trim cX4_trim 6 (some .int) :: xU) (xrm 3 73) (va_Pc [.ref (ad 0), .int (xI z1), .int (xI z2)] (xM D cA n ad en sz)) (va_Qi (fun r u => r = xI (am_trim S z1 z2).1 ∧ CW cA ad u (am_trim S z1 z2).2 ∧ xO 0 53 en u) (xE D n ad) (xA n ad sz)) 0 0 (xA n ad sz) := by
  refine xmet (by decide) (Nat.le_of_ble_eq_true rfl) (fun p e s mm args below meth c ls hx hb hrt hml hown hts hlocks hname hB hl => ?_)
  obtain ⟨⟨hP, hK, hN⟩, hsz, hDt⟩ := hB
  have hD : xD (xA n ad sz) n ad := xD_self hDt sz
  have hA : ∀ q : Nat, s.heap.size ≤ q → xA n ad sz q := fun q h => Or.inr (by rw [← hsz]; exact h)
  have hS : va_S (xA n ad sz) s.heap s.heap [] := va_S.rf
  have hown : s.vm.findClass RX4 = some mm.cls := hown
  have hl : lv_has ls 6 [(0, .ref (ad 0)), (1, .int (xI z1)), (2, .int (xI z2))] := hl
  rcases Classical.em (0 ≤ z1 ∧ z1 < 8) with hx_z1 | hx_z1
  · obtain ⟨t1, rfl⟩ : ∃ q : Nat, z1 = (q : Int) := ⟨z1.toNat, by omega⟩
    have h_t1 : t1 < 8 := by omega
    rcases hS_t1 : S.2.1 t1 with _ | r_t1
    · rcases Classical.em (0 ≤ z2 ∧ z2 < 8) with hx_z2 | hx_z2
      · obtain ⟨t2, rfl⟩ : ∃ q : Nat, z2 = (q : Int) := ⟨z2.toNat, by omega⟩
        have h_t2 : t2 < 8 := by omega
        have hT_t1 : XT cA ad en (21 + 3 * t1) none := by have q : XT cA ad en (21 + 3 * t1) (S.2.1 t1) := hC.rt h_t1; rw [hS_t1] at q; exact q
        have hT_t2 : XT cA ad en (21 + 3 * t2) (S.2.1 t2) := hC.rt h_t2
        obtain ⟨zm_t2, tm_t2, tf_t2, hO_t2, hr_t2⟩ := hT_t2.any
        refine lv_aload_n hx hb dX4_trim_0 rfl (lv_at hl 0 rfl) ?_
        refine lv_iload_n hx hb dX4_trim_1 rfl (lv_at hl 1 rfl) ?_
        refine xv_q (i := 0) (As := [.int (xI (t1 : Int))]) (rest := []) ⟨hx, hb, hml, hown, hts⟩ hl.1 (c_X4_textOf_in l D cA n ad en (by omega) hC t1 (by omega)) k_X4_textOf u_ml_RX4_97 hK hN hP (by omega) hC.1 rfl rfl rfl rfl (Nat.le_of_ble_eq_true rfl) ⟨Nat.le_of_ble_eq_true rfl, Nat.le_of_ble_eq_true rfl⟩ ⟨Nat.le_of_ble_eq_true rfl, Nat.le_of_ble_eq_true rfl⟩ dX4_trim_2 ?_
        refine lv_astore_n (lv' := [(3, .ref (ad (21 + 3 * t1))), (0, .ref (ad 0)), (1, .int (xI (t1 : Int))), (2, .int (xI (t2 : Int)))]) hx hb dX4_trim_5 rfl hl (by decide) rfl (fun ls hl => ?_)
        refine lv_aload_n hx hb dX4_trim_6 rfl (lv_at hl 1 rfl) ?_
        refine lv_iload_n hx hb dX4_trim_7 rfl (lv_at hl 3 rfl) ?_
        refine xv_q (i := 0) (As := [.int (xI (t2 : Int))]) (rest := []) ⟨hx, hb, hml, hown, hts⟩ hl.1 (c_X4_textOf_in l D cA n ad en (by omega) hC t2 (by omega)) k_X4_textOf u_ml_RX4_97 hK hN hP (by omega) hC.1 rfl rfl rfl rfl (Nat.le_of_ble_eq_true rfl) ⟨Nat.le_of_ble_eq_true rfl, Nat.le_of_ble_eq_true rfl⟩ ⟨Nat.le_of_ble_eq_true rfl, Nat.le_of_ble_eq_true rfl⟩ dX4_trim_8 ?_
        refine lv_astore (lv' := [(4, .ref (ad (21 + 3 * t2))), (3, .ref (ad (21 + 3 * t1))), (0, .ref (ad 0)), (1, .int (xI (t1 : Int))), (2, .int (xI (t2 : Int)))]) hx hb dX4_trim_11 hl (by decide) rfl (fun ls hl => ?_)
        refine lv_aload_n hx hb dX4_trim_13 rfl (lv_at hl 1 rfl) ?_
        refine lv_ifnull hx hb dX4_trim_14 ?_
        refine lv_aload hx hb dX4_trim_17 (lv_at hl 0 rfl) ?_
        refine lv_ifnonnull (tgt := 26) hx hb dX4_trim_19 (by decide) ?_
        refine lv_aload_n hx hb dX4_trim_26 rfl (lv_at hl 1 rfl) ?_
        refine x_getn (T := TX3) (N := 2) hx hb hts uX3 hown hN hK hP (i := 21 + 3 * t1) (by omega) hT_t1.1 rfl 1 (by decide) (by simp only [xNest, List.mem_cons]; exact Or.inr (Or.inr (Or.inr (Or.inr (Or.inr (Or.inr (Or.inl rfl))))))) rfl dX4_trim_27 ?_
        refine x_if_eq (tgt := 37) hx hb dX4_trim_30 (by decide) (by omega) (fun c_30 => absurd c_30 (by omega)) (fun c_30 => ?_)
        refine x_sipush hx hb dX4_trim_33 (by decide +kernel) ?_
        exact xe_i hx hb hrt hlocks hP hS ((by unfold am_trim; simp only [Int.toNat_natCast]; rw [sp_if_f (by omega), sp_if_t (by simp [hS_t1])]; exact ⟨rfl, hC, xO.rf⟩)) dX4_trim_36
      · have hT_t1 : XT cA ad en (21 + 3 * t1) none := by have q : XT cA ad en (21 + 3 * t1) (S.2.1 t1) := hC.rt h_t1; rw [hS_t1] at q; exact q
        refine lv_aload_n hx hb dX4_trim_0 rfl (lv_at hl 0 rfl) ?_
        refine lv_iload_n hx hb dX4_trim_1 rfl (lv_at hl 1 rfl) ?_
        refine xv_q (i := 0) (As := [.int (xI (t1 : Int))]) (rest := []) ⟨hx, hb, hml, hown, hts⟩ hl.1 (c_X4_textOf_in l D cA n ad en (by omega) hC t1 (by omega)) k_X4_textOf u_ml_RX4_97 hK hN hP (by omega) hC.1 rfl rfl rfl rfl (Nat.le_of_ble_eq_true rfl) ⟨Nat.le_of_ble_eq_true rfl, Nat.le_of_ble_eq_true rfl⟩ ⟨Nat.le_of_ble_eq_true rfl, Nat.le_of_ble_eq_true rfl⟩ dX4_trim_2 ?_
        refine lv_astore_n (lv' := [(3, .ref (ad (21 + 3 * t1))), (0, .ref (ad 0)), (1, .int (xI (t1 : Int))), (2, .int (xI z2))]) hx hb dX4_trim_5 rfl hl (by decide) rfl (fun ls hl => ?_)
        refine lv_aload_n hx hb dX4_trim_6 rfl (lv_at hl 1 rfl) ?_
        refine lv_iload_n hx hb dX4_trim_7 rfl (lv_at hl 3 rfl) ?_
        refine xv_q (i := 0) (As := [.int (xI z2)]) (rest := []) ⟨hx, hb, hml, hown, hts⟩ hl.1 (c_X4_textOf_out l D cA n ad en (by omega) hC z2 (by omega) (by omega)) k_X4_textOf u_ml_RX4_97 hK hN hP (by omega) hC.1 rfl rfl rfl rfl (Nat.le_of_ble_eq_true rfl) ⟨Nat.le_of_ble_eq_true rfl, Nat.le_of_ble_eq_true rfl⟩ ⟨Nat.le_of_ble_eq_true rfl, Nat.le_of_ble_eq_true rfl⟩ dX4_trim_8 ?_
        refine lv_astoreN (lv' := [(4, .null), (3, .ref (ad (21 + 3 * t1))), (0, .ref (ad 0)), (1, .int (xI (t1 : Int))), (2, .int (xI z2))]) hx hb dX4_trim_11 hl (by decide) rfl (fun ls hl => ?_)
        refine lv_aload_n hx hb dX4_trim_13 rfl (lv_at hl 1 rfl) ?_
        refine lv_ifnull hx hb dX4_trim_14 ?_
        refine lv_aloadN hx hb dX4_trim_17 (lv_at hl 0 rfl) ?_
        refine lv_ifnonnullN hx hb dX4_trim_19 ?_
        refine x_sipush hx hb dX4_trim_22 (by decide +kernel) ?_
        exact xe_i hx hb hrt hlocks hP hS ((by unfold am_trim; simp only [Int.toNat_natCast]; rw [sp_if_t (by omega)]; exact ⟨rfl, hC, xO.rf⟩)) dX4_trim_25
    · rcases Classical.em (0 ≤ z2 ∧ z2 < 8) with hx_z2 | hx_z2
      · obtain ⟨t2, rfl⟩ : ∃ q : Nat, z2 = (q : Int) := ⟨z2.toNat, by omega⟩
        have h_t2 : t2 < 8 := by omega
        have hT_t1 : XT cA ad en (21 + 3 * t1) (some r_t1) := by have q : XT cA ad en (21 + 3 * t1) (S.2.1 t1) := hC.rt h_t1; rw [hS_t1] at q; exact q
        have hr_t1 := hT_t1.2
        have hm_t1 := hr_t1.2.2.1
        have hT_t2 : XT cA ad en (21 + 3 * t2) (S.2.1 t2) := hC.rt h_t2
        obtain ⟨zm_t2, tm_t2, tf_t2, hO_t2, hr_t2⟩ := hT_t2.any
        refine lv_aload_n hx hb dX4_trim_0 rfl (lv_at hl 0 rfl) ?_
        refine lv_iload_n hx hb dX4_trim_1 rfl (lv_at hl 1 rfl) ?_
        refine xv_q (i := 0) (As := [.int (xI (t1 : Int))]) (rest := []) ⟨hx, hb, hml, hown, hts⟩ hl.1 (c_X4_textOf_in l D cA n ad en (by omega) hC t1 (by omega)) k_X4_textOf u_ml_RX4_97 hK hN hP (by omega) hC.1 rfl rfl rfl rfl (Nat.le_of_ble_eq_true rfl) ⟨Nat.le_of_ble_eq_true rfl, Nat.le_of_ble_eq_true rfl⟩ ⟨Nat.le_of_ble_eq_true rfl, Nat.le_of_ble_eq_true rfl⟩ dX4_trim_2 ?_
        refine lv_astore_n (lv' := [(3, .ref (ad (21 + 3 * t1))), (0, .ref (ad 0)), (1, .int (xI (t1 : Int))), (2, .int (xI (t2 : Int)))]) hx hb dX4_trim_5 rfl hl (by decide) rfl (fun ls hl => ?_)
        refine lv_aload_n hx hb dX4_trim_6 rfl (lv_at hl 1 rfl) ?_
        refine lv_iload_n hx hb dX4_trim_7 rfl (lv_at hl 3 rfl) ?_
        refine xv_q (i := 0) (As := [.int (xI (t2 : Int))]) (rest := []) ⟨hx, hb, hml, hown, hts⟩ hl.1 (c_X4_textOf_in l D cA n ad en (by omega) hC t2 (by omega)) k_X4_textOf u_ml_RX4_97 hK hN hP (by omega) hC.1 rfl rfl rfl rfl (Nat.le_of_ble_eq_true rfl) ⟨Nat.le_of_ble_eq_true rfl, Nat.le_of_ble_eq_true rfl⟩ ⟨Nat.le_of_ble_eq_true rfl, Nat.le_of_ble_eq_true rfl⟩ dX4_trim_8 ?_
        refine lv_astore (lv' := [(4, .ref (ad (21 + 3 * t2))), (3, .ref (ad (21 + 3 * t1))), (0, .ref (ad 0)), (1, .int (xI (t1 : Int))), (2, .int (xI (t2 : Int)))]) hx hb dX4_trim_11 hl (by decide) rfl (fun ls hl => ?_)
        refine lv_aload_n hx hb dX4_trim_13 rfl (lv_at hl 1 rfl) ?_
        refine lv_ifnull hx hb dX4_trim_14 ?_
        refine lv_aload hx hb dX4_trim_17 (lv_at hl 0 rfl) ?_
        refine lv_ifnonnull (tgt := 26) hx hb dX4_trim_19 (by decide) ?_
        refine lv_aload_n hx hb dX4_trim_26 rfl (lv_at hl 1 rfl) ?_
        refine x_getn (T := TX3) (N := 2) hx hb hts uX3 hown hN hK hP (i := 21 + 3 * t1) (by omega) hT_t1.1 rfl 1 (by decide) (by simp only [xNest, List.mem_cons]; exact Or.inr (Or.inr (Or.inr (Or.inr (Or.inr (Or.inr (Or.inl rfl))))))) rfl dX4_trim_27 ?_
        refine x_if_eq (tgt := 37) hx hb dX4_trim_30 (by decide) (by omega) (fun c_30 => ?_) (fun c_30 => absurd c_30 (by omega))
        refine lv_aload_n hx hb dX4_trim_37 rfl (lv_at hl 1 rfl) ?_
        refine x_getn (T := TX3) (N := 2) hx hb hts uX3 hown hN hK hP (i := 21 + 3 * t1) (by omega) hT_t1.1 rfl 0 (by decide) (by simp only [xNest, List.mem_cons]; exact Or.inr (Or.inr (Or.inr (Or.inr (Or.inr (Or.inl rfl)))))) rfl dX4_trim_38 ?_
        have hta : 0 ≤ sp_ta r_t1.2 (r_t1.1 : Int) ∧ sp_ta r_t1.2 (r_t1.1 : Int) ≤ (r_t1.1 : Int) := sp_while_b (by omega)
        refine xv_i (i := 21 + 3 * t1 + 1) (As := []) (rest := []) ⟨hx, hb, hml, hown, hts⟩ hl.1 (c_X2_blanksAhead l D cA n ad en (by omega) hr_t1) k_X2_blanksAhead u_ml_RX4_160 hK hN hP (by omega) hr_t1.1 rfl rfl rfl rfl (Nat.le_of_ble_eq_true rfl) ⟨Nat.le_of_ble_eq_true rfl, Nat.le_of_ble_eq_true rfl⟩ ⟨Nat.le_of_ble_eq_true rfl, Nat.le_of_ble_eq_true rfl⟩ dX4_trim_41 ?_
        refine lv_istore (lv' := [(5, .int (xI (sp_ta r_t1.2 (r_t1.1 : Int)))), (4, .ref (ad (21 + 3 * t2))), (3, .ref (ad (21 + 3 * t1))), (0, .ref (ad 0)), (1, .int (xI (t1 : Int))), (2, .int (xI (t2 : Int)))]) hx hb dX4_trim_44 hl (by decide) rfl (fun ls hl => ?_)
        refine lv_aload hx hb dX4_trim_46 (lv_at hl 1 rfl) ?_
        refine lv_aload_n hx hb dX4_trim_48 rfl (lv_at hl 2 rfl) ?_
        refine x_getn (T := TX3) (N := 2) hx hb hts uX3 hown hN hK hP (i := 21 + 3 * t1) (by omega) hT_t1.1 rfl 0 (by decide) (by simp only [xNest, List.mem_cons]; exact Or.inr (Or.inr (Or.inr (Or.inr (Or.inr (Or.inl rfl)))))) rfl dX4_trim_49 ?_
        refine lv_iload hx hb dX4_trim_52 (lv_at hl 0 rfl) ?_
        refine lv_aload_n hx hb dX4_trim_54 rfl (lv_at hl 2 rfl) ?_
        refine x_getn (T := TX3) (N := 2) hx hb hts uX3 hown hN hK hP (i := 21 + 3 * t1) (by omega) hT_t1.1 rfl 0 (by decide) (by simp only [xNest, List.mem_cons]; exact Or.inr (Or.inr (Or.inr (Or.inr (Or.inr (Or.inl rfl)))))) rfl dX4_trim_55 ?_
        refine lv_iload hx hb dX4_trim_58 (lv_at hl 0 rfl) ?_
        have htb : sp_ta r_t1.2 (r_t1.1 : Int) ≤ sp_tb r_t1.2 (r_t1.1 : Int) ∧ sp_tb r_t1.2 (r_t1.1 : Int) ≤ (r_t1.1 : Int) := sp_back_b (by omega)
        refine xv_i (i := 21 + 3 * t1 + 1) (As := [.int (xI (sp_ta r_t1.2 (r_t1.1 : Int)))]) (rest := [.int (xI (sp_ta r_t1.2 (r_t1.1 : Int))), .ref (ad (21 + 3 * t1 + 1)), .ref (ad (21 + 3 * t2))]) ⟨hx, hb, hml, hown, hts⟩ hl.1 (c_X2_endBeforeBlanks l D cA n ad en (by omega) hr_t1 (sp_ta r_t1.2 (r_t1.1 : Int)) (by omega)) k_X2_endBeforeBlanks u_ml_RX4_164 hK hN hP (by omega) hr_t1.1 rfl rfl rfl rfl (Nat.le_of_ble_eq_true rfl) ⟨Nat.le_of_ble_eq_true rfl, Nat.le_of_ble_eq_true rfl⟩ ⟨Nat.le_of_ble_eq_true rfl, Nat.le_of_ble_eq_true rfl⟩ dX4_trim_60 ?_
        refine xm_i (i := 21 + 3 * t2) (As := [.ref (ad (21 + 3 * t1 + 1)), .int (xI (sp_ta r_t1.2 (r_t1.1 : Int))), .int (xI (sp_tb r_t1.2 (r_t1.1 : Int)))]) (rest := []) ⟨hx, hb, hml, hown, hts⟩ hl.1 (c_X3_become l D cA n ad en _ (by omega) hT_t2 (by omega) hr_t1 (by omega) (sp_ta r_t1.2 (r_t1.1 : Int)) (sp_tb r_t1.2 (r_t1.1 : Int)) (by omega) (by omega)) k_X3_become u_ml_RX4_129 hK hN hP (by omega) hO_t2 rfl rfl rfl rfl (Nat.le_of_ble_eq_true rfl) ⟨Nat.le_of_ble_eq_true rfl, Nat.le_of_ble_eq_true rfl⟩ ⟨Nat.le_of_ble_eq_true rfl, Nat.le_of_ble_eq_true rfl⟩ dX4_trim_63 hD hS hA (fun r1 en1 H locs hp1 hP hS => ?_)
        rcases hp1 with ⟨hsp, hrv, hx1, hoc⟩ | ⟨hsp, hrv, hu⟩
        · subst hrv
          have hC9 := hC.text h_t2 (hoc.mo (by omega) (by omega)) hx1
          have ho : xO 0 53 en en1 := hoc.mo (by omega) (by omega)
          exact xe_i hx hb hrt hlocks hP hS ((by unfold am_trim; simp only [Int.toNat_natCast]; simp only [sp_get_s hS_t1]; rw [sp_if_f (by omega), sp_if_f (by simp [hS_t1])]; unfold sp_trm; exact ⟨rfl, hC9, ho⟩)) dX4_trim_66
        · exact absurd (by omega) hsp
      · have hT_t1 : XT cA ad en (21 + 3 * t1) (some r_t1) := by have q : XT cA ad en (21 + 3 * t1) (S.2.1 t1) := hC.rt h_t1; rw [hS_t1] at q; exact q
        have hr_t1 := hT_t1.2
        have hm_t1 := hr_t1.2.2.1
        refine lv_aload_n hx hb dX4_trim_0 rfl (lv_at hl 0 rfl) ?_
        refine lv_iload_n hx hb dX4_trim_1 rfl (lv_at hl 1 rfl) ?_
        refine xv_q (i := 0) (As := [.int (xI (t1 : Int))]) (rest := []) ⟨hx, hb, hml, hown, hts⟩ hl.1 (c_X4_textOf_in l D cA n ad en (by omega) hC t1 (by omega)) k_X4_textOf u_ml_RX4_97 hK hN hP (by omega) hC.1 rfl rfl rfl rfl (Nat.le_of_ble_eq_true rfl) ⟨Nat.le_of_ble_eq_true rfl, Nat.le_of_ble_eq_true rfl⟩ ⟨Nat.le_of_ble_eq_true rfl, Nat.le_of_ble_eq_true rfl⟩ dX4_trim_2 ?_
        refine lv_astore_n (lv' := [(3, .ref (ad (21 + 3 * t1))), (0, .ref (ad 0)), (1, .int (xI (t1 : Int))), (2, .int (xI z2))]) hx hb dX4_trim_5 rfl hl (by decide) rfl (fun ls hl => ?_)
        refine lv_aload_n hx hb dX4_trim_6 rfl (lv_at hl 1 rfl) ?_
        refine lv_iload_n hx hb dX4_trim_7 rfl (lv_at hl 3 rfl) ?_
        refine xv_q (i := 0) (As := [.int (xI z2)]) (rest := []) ⟨hx, hb, hml, hown, hts⟩ hl.1 (c_X4_textOf_out l D cA n ad en (by omega) hC z2 (by omega) (by omega)) k_X4_textOf u_ml_RX4_97 hK hN hP (by omega) hC.1 rfl rfl rfl rfl (Nat.le_of_ble_eq_true rfl) ⟨Nat.le_of_ble_eq_true rfl, Nat.le_of_ble_eq_true rfl⟩ ⟨Nat.le_of_ble_eq_true rfl, Nat.le_of_ble_eq_true rfl⟩ dX4_trim_8 ?_
        refine lv_astoreN (lv' := [(4, .null), (3, .ref (ad (21 + 3 * t1))), (0, .ref (ad 0)), (1, .int (xI (t1 : Int))), (2, .int (xI z2))]) hx hb dX4_trim_11 hl (by decide) rfl (fun ls hl => ?_)
        refine lv_aload_n hx hb dX4_trim_13 rfl (lv_at hl 1 rfl) ?_
        refine lv_ifnull hx hb dX4_trim_14 ?_
        refine lv_aloadN hx hb dX4_trim_17 (lv_at hl 0 rfl) ?_
        refine lv_ifnonnullN hx hb dX4_trim_19 ?_
        refine x_sipush hx hb dX4_trim_22 (by decide +kernel) ?_
        exact xe_i hx hb hrt hlocks hP hS ((by unfold am_trim; simp only [Int.toNat_natCast]; simp only [sp_get_s hS_t1]; rw [sp_if_t (by omega)]; exact ⟨rfl, hC, xO.rf⟩)) dX4_trim_25
  · rcases Classical.em (0 ≤ z2 ∧ z2 < 8) with hx_z2 | hx_z2
    · obtain ⟨t2, rfl⟩ : ∃ q : Nat, z2 = (q : Int) := ⟨z2.toNat, by omega⟩
      have h_t2 : t2 < 8 := by omega
      have hT_t2 : XT cA ad en (21 + 3 * t2) (S.2.1 t2) := hC.rt h_t2
      obtain ⟨zm_t2, tm_t2, tf_t2, hO_t2, hr_t2⟩ := hT_t2.any
      refine lv_aload_n hx hb dX4_trim_0 rfl (lv_at hl 0 rfl) ?_
      refine lv_iload_n hx hb dX4_trim_1 rfl (lv_at hl 1 rfl) ?_
      refine xv_q (i := 0) (As := [.int (xI z1)]) (rest := []) ⟨hx, hb, hml, hown, hts⟩ hl.1 (c_X4_textOf_out l D cA n ad en (by omega) hC z1 (by omega) (by omega)) k_X4_textOf u_ml_RX4_97 hK hN hP (by omega) hC.1 rfl rfl rfl rfl (Nat.le_of_ble_eq_true rfl) ⟨Nat.le_of_ble_eq_true rfl, Nat.le_of_ble_eq_true rfl⟩ ⟨Nat.le_of_ble_eq_true rfl, Nat.le_of_ble_eq_true rfl⟩ dX4_trim_2 ?_
      refine lv_astore_nN (lv' := [(3, .null), (0, .ref (ad 0)), (1, .int (xI z1)), (2, .int (xI (t2 : Int)))]) hx hb dX4_trim_5 rfl hl (by decide) rfl (fun ls hl => ?_)
      refine lv_aload_n hx hb dX4_trim_6 rfl (lv_at hl 1 rfl) ?_
      refine lv_iload_n hx hb dX4_trim_7 rfl (lv_at hl 3 rfl) ?_
      refine xv_q (i := 0) (As := [.int (xI (t2 : Int))]) (rest := []) ⟨hx, hb, hml, hown, hts⟩ hl.1 (c_X4_textOf_in l D cA n ad en (by omega) hC t2 (by omega)) k_X4_textOf u_ml_RX4_97 hK hN hP (by omega) hC.1 rfl rfl rfl rfl (Nat.le_of_ble_eq_true rfl) ⟨Nat.le_of_ble_eq_true rfl, Nat.le_of_ble_eq_true rfl⟩ ⟨Nat.le_of_ble_eq_true rfl, Nat.le_of_ble_eq_true rfl⟩ dX4_trim_8 ?_
      refine lv_astore (lv' := [(4, .ref (ad (21 + 3 * t2))), (3, .null), (0, .ref (ad 0)), (1, .int (xI z1)), (2, .int (xI (t2 : Int)))]) hx hb dX4_trim_11 hl (by decide) rfl (fun ls hl => ?_)
      refine lv_aload_nN hx hb dX4_trim_13 rfl (lv_at hl 1 rfl) ?_
      refine lv_ifnullN (tgt := 22) hx hb dX4_trim_14 (by decide) ?_
      refine x_sipush hx hb dX4_trim_22 (by decide +kernel) ?_
      exact xe_i hx hb hrt hlocks hP hS ((by unfold am_trim; simp only [Int.toNat_natCast]; rw [sp_if_t (by omega)]; exact ⟨rfl, hC, xO.rf⟩)) dX4_trim_25
    · refine lv_aload_n hx hb dX4_trim_0 rfl (lv_at hl 0 rfl) ?_
      refine lv_iload_n hx hb dX4_trim_1 rfl (lv_at hl 1 rfl) ?_
      refine xv_q (i := 0) (As := [.int (xI z1)]) (rest := []) ⟨hx, hb, hml, hown, hts⟩ hl.1 (c_X4_textOf_out l D cA n ad en (by omega) hC z1 (by omega) (by omega)) k_X4_textOf u_ml_RX4_97 hK hN hP (by omega) hC.1 rfl rfl rfl rfl (Nat.le_of_ble_eq_true rfl) ⟨Nat.le_of_ble_eq_true rfl, Nat.le_of_ble_eq_true rfl⟩ ⟨Nat.le_of_ble_eq_true rfl, Nat.le_of_ble_eq_true rfl⟩ dX4_trim_2 ?_
      refine lv_astore_nN (lv' := [(3, .null), (0, .ref (ad 0)), (1, .int (xI z1)), (2, .int (xI z2))]) hx hb dX4_trim_5 rfl hl (by decide) rfl (fun ls hl => ?_)
      refine lv_aload_n hx hb dX4_trim_6 rfl (lv_at hl 1 rfl) ?_
      refine lv_iload_n hx hb dX4_trim_7 rfl (lv_at hl 3 rfl) ?_
      refine xv_q (i := 0) (As := [.int (xI z2)]) (rest := []) ⟨hx, hb, hml, hown, hts⟩ hl.1 (c_X4_textOf_out l D cA n ad en (by omega) hC z2 (by omega) (by omega)) k_X4_textOf u_ml_RX4_97 hK hN hP (by omega) hC.1 rfl rfl rfl rfl (Nat.le_of_ble_eq_true rfl) ⟨Nat.le_of_ble_eq_true rfl, Nat.le_of_ble_eq_true rfl⟩ ⟨Nat.le_of_ble_eq_true rfl, Nat.le_of_ble_eq_true rfl⟩ dX4_trim_8 ?_
      refine lv_astoreN (lv' := [(4, .null), (3, .null), (0, .ref (ad 0)), (1, .int (xI z1)), (2, .int (xI z2))]) hx hb dX4_trim_11 hl (by decide) rfl (fun ls hl => ?_)
      refine lv_aload_nN hx hb dX4_trim_13 rfl (lv_at hl 1 rfl) ?_
      refine lv_ifnullN (tgt := 22) hx hb dX4_trim_14 (by decide) ?_
      refine x_sipush hx hb dX4_trim_22 (by decide +kernel) ?_
      exact xe_i hx hb hrt hlocks hP hS ((by unfold am_trim; rw [sp_if_t (by omega)]; exact ⟨rfl, hC, xO.rf⟩)) dX4_trim_25

theorem XT.to {cA : Nat → ClassId} {ad : Nat → Nat} {en : Nat → va_E} {i m m' : Nat} {f f' : Nat → Int} (h : XT cA ad en i (some (m, f))) (hm : m = m') (hf : ∀ t : Nat, t < m → f t = f' t) : XT cA ad en i (some (m', f')) := ⟨h.1, h.2.to hm hf⟩
theorem CW_eqt {cA : Nat → ClassId} {ad : Nat → Nat} {en : Nat → va_E} {S : xSt} {u m m' : Nat} {f f' : Nat → Int} (h : CW cA ad en (S.1, sp_up S.2.1 u (some (m, f)), S.2.2)) (hm : m = m') (hf : ∀ t : Nat, t < m → f t = f' t) : CW cA ad en (S.1, sp_up S.2.1 u (some (m', f')), S.2.2) := by
  obtain ⟨h0, h1, h2, h3, h4, h5, h6, h7, h8, h9⟩ := h
  refine ⟨h0, h1, h2, h3, h4, h5, h6, h7, fun t ht => ?_, h9⟩
  have q : XT cA ad en (21 + 3 * t) (sp_up S.2.1 u (some (m, f)) t) := h8 t ht
  show XT cA ad en (21 + 3 * t) (sp_up S.2.1 u (some (m', f')) t)
  by_cases e : t = u
  · subst e
    rw [sp_up_s] at q ⊢
    exact q.to hm hf
  · rw [sp_up_n _ _ e] at q ⊢
    exact q

set_option maxRecDepth 20000 in
theorem c_X4_join (l : Launch) (D : va_G) (cA : Nat → ClassId) (n : Nat) (ad : Nat → Nat) (en : Nat → va_E) (sz : Nat) (hn : 53 ≤ n) {S : xSt} (hC : CW cA ad en S) (z1 : Int) (hz1 : -2147483648 ≤ z1 ∧ z1 ≤ 2147483647) (z2 : Int) (hz2 : -2147483648 ≤ z2 ∧ z2 ≤ 2147483647) (z3 : Int) (hz3 : -2147483648 ≤ z3 ∧ z3 ≤ 2147483647) : Met l yX4_join (Cond.code yX4_join cX4_join 9 (some .int) :: xU) (xrm 3 75) (va_Pc [.ref (ad 0), .int (xI z1), .int (xI z2), .int (xI z3)] (xM D cA n ad en sz)) (va_Qi (fun r u => r = xI (am_join S z1 z2 z3).1 ∧ CW cA ad u (am_join S z1 z2 z3).2 ∧ xO 0 53 en u) (xE D n ad) (xA n ad sz)) 0 0 (xA n ad sz) := by
  refine xmet (by decide) (Nat.le_of_ble_eq_true rfl) (fun p e s mm args below meth c ls hx hb hrt hml hown hts hlocks hname hB hl => ?_)
  obtain ⟨⟨hP, hK, hN⟩, hsz, hDt⟩ := hB
  have hD : xD (xA n ad sz) n ad := xD_self hDt sz
  have hA : ∀ q : Nat, s.heap.size ≤ q → xA n ad sz q := fun q h => Or.inr (by rw [← hsz]; exact h)
  have hS : va_S (xA n ad sz) s.heap s.heap [] := va_S.rf
  have hown : s.vm.findClass RX4 = some mm.cls := hown
  have hl : lv_has ls 9 [(0, .ref (ad 0)), (1, .int (xI z1)), (2, .int (xI z2)), (3, .int (xI z3))] := hl
  rcases Classical.em (0 ≤ z1 ∧ z1 < 8) with hx_z1 | hx_z1
  · obtain ⟨t1, rfl⟩ : ∃ q : Nat, z1 = (q : Int) := ⟨z1.toNat, by omega⟩
    have h_t1 : t1 < 8 := by omega
    rcases hS_t1 : S.2.1 t1 with _ | r_t1
    · rcases Classical.em (0 ≤ z2 ∧ z2 < 8) with hx_z2 | hx_z2
      · obtain ⟨t2, rfl⟩ : ∃ q : Nat, z2 = (q : Int) := ⟨z2.toNat, by omega⟩
        have h_t2 : t2 < 8 := by omega
        rcases hS_t2 : S.2.1 t2 with _ | r_t2
        · rcases Classical.em (0 ≤ z3 ∧ z3 < 8) with hx_z3 | hx_z3
          · obtain ⟨t3, rfl⟩ : ∃ q : Nat, z3 = (q : Int) := ⟨z3.toNat, by omega⟩
            have h_t3 : t3 < 8 := by omega
            have hT_t1 : XT cA ad en (21 + 3 * t1) none := by have q : XT cA ad en (21 + 3 * t1) (S.2.1 t1) := hC.rt h_t1; rw [hS_t1] at q; exact q
            have hT_t2 : XT cA ad en (21 + 3 * t2) none := by have q : XT cA ad en (21 + 3 * t2) (S.2.1 t2) := hC.rt h_t2; rw [hS_t2] at q; exact q
            have hT_t3 : XT cA ad en (21 + 3 * t3) (S.2.1 t3) := hC.rt h_t3
            obtain ⟨zm_t3, tm_t3, tf_t3, hO_t3, hr_t3⟩ := hT_t3.any
            refine lv_aload_n hx hb dX4_join_0 rfl (lv_at hl 0 rfl) ?_
            refine lv_iload_n hx hb dX4_join_1 rfl (lv_at hl 1 rfl) ?_
            refine xv_q (i := 0) (As := [.int (xI (t1 : Int))]) (rest := []) ⟨hx, hb, hml, hown, hts⟩ hl.1 (c_X4_textOf_in l D cA n ad en (by omega) hC t1 (by omega)) k_X4_textOf u_ml_RX4_97 hK hN hP (by omega) hC.1 rfl rfl rfl rfl (Nat.le_of_ble_eq_true rfl) ⟨Nat.le_of_ble_eq_true rfl, Nat.le_of_ble_eq_true rfl⟩ ⟨Nat.le_of_ble_eq_true rfl, Nat.le_of_ble_eq_true rfl⟩ dX4_join_2 ?_
            refine lv_astore (lv' := [(4, .ref (ad (21 + 3 * t1))), (0, .ref (ad 0)), (1, .int (xI (t1 : Int))), (2, .int (xI (t2 : Int))), (3, .int (xI (t3 : Int)))]) hx hb dX4_join_5 hl (by decide) rfl (fun ls hl => ?_)
            refine lv_aload_n hx hb dX4_join_7 rfl (lv_at hl 1 rfl) ?_
            refine lv_iload_n hx hb dX4_join_8 rfl (lv_at hl 3 rfl) ?_
            refine xv_q (i := 0) (As := [.int (xI (t2 : Int))]) (rest := []) ⟨hx, hb, hml, hown, hts⟩ hl.1 (c_X4_textOf_in l D cA n ad en (by omega) hC t2 (by omega)) k_X4_textOf u_ml_RX4_97 hK hN hP (by omega) hC.1 rfl rfl rfl rfl (Nat.le_of_ble_eq_true rfl) ⟨Nat.le_of_ble_eq_true rfl, Nat.le_of_ble_eq_true rfl⟩ ⟨Nat.le_of_ble_eq_true rfl, Nat.le_of_ble_eq_true rfl⟩ dX4_join_9 ?_
            refine lv_astore (lv' := [(5, .ref (ad (21 + 3 * t2))), (4, .ref (ad (21 + 3 * t1))), (0, .ref (ad 0)), (1, .int (xI (t1 : Int))), (2, .int (xI (t2 : Int))), (3, .int (xI (t3 : Int)))]) hx hb dX4_join_12 hl (by decide) rfl (fun ls hl => ?_)
            refine lv_aload_n hx hb dX4_join_14 rfl (lv_at hl 2 rfl) ?_
            refine lv_iload_n hx hb dX4_join_15 rfl (lv_at hl 5 rfl) ?_
            refine xv_q (i := 0) (As := [.int (xI (t3 : Int))]) (rest := []) ⟨hx, hb, hml, hown, hts⟩ hl.1 (c_X4_textOf_in l D cA n ad en (by omega) hC t3 (by omega)) k_X4_textOf u_ml_RX4_97 hK hN hP (by omega) hC.1 rfl rfl rfl rfl (Nat.le_of_ble_eq_true rfl) ⟨Nat.le_of_ble_eq_true rfl, Nat.le_of_ble_eq_true rfl⟩ ⟨Nat.le_of_ble_eq_true rfl, Nat.le_of_ble_eq_true rfl⟩ dX4_join_16 ?_
            refine lv_astore (lv' := [(6, .ref (ad (21 + 3 * t3))), (5, .ref (ad (21 + 3 * t2))), (4, .ref (ad (21 + 3 * t1))), (0, .ref (ad 0)), (1, .int (xI (t1 : Int))), (2, .int (xI (t2 : Int))), (3, .int (xI (t3 : Int)))]) hx hb dX4_join_19 hl (by decide) rfl (fun ls hl => ?_)
            refine lv_aload hx hb dX4_join_21 (lv_at hl 2 rfl) ?_
            refine lv_ifnull hx hb dX4_join_23 ?_
            refine lv_aload hx hb dX4_join_26 (lv_at hl 1 rfl) ?_
            refine lv_ifnull hx hb dX4_join_28 ?_
            refine lv_aload hx hb dX4_join_31 (lv_at hl 0 rfl) ?_
            refine lv_ifnonnull (tgt := 40) hx hb dX4_join_33 (by decide) ?_
            refine lv_aload hx hb dX4_join_40 (lv_at hl 2 rfl) ?_
            refine x_getn (T := TX3) (N := 2) hx hb hts uX3 hown hN hK hP (i := 21 + 3 * t1) (by omega) hT_t1.1 rfl 1 (by decide) (by simp only [xNest, List.mem_cons]; exact Or.inr (Or.inr (Or.inr (Or.inr (Or.inr (Or.inr (Or.inl rfl))))))) rfl dX4_join_42 ?_
            refine x_if_ne (tgt := 56) hx hb dX4_join_45 (by decide) (by omega) (fun c_45 => ?_) (fun c_45 => absurd c_45 (by omega))
            refine x_sipush hx hb dX4_join_56 (by decide +kernel) ?_
            exact xe_i hx hb hrt hlocks hP hS ((by unfold am_join; simp only [Int.toNat_natCast]; rw [sp_if_f (by omega), sp_if_t (by simp [hS_t1, hS_t2])]; exact ⟨rfl, hC, xO.rf⟩)) dX4_join_59
          · have hT_t1 : XT cA ad en (21 + 3 * t1) none := by have q : XT cA ad en (21 + 3 * t1) (S.2.1 t1) := hC.rt h_t1; rw [hS_t1] at q; exact q
            have hT_t2 : XT cA ad en (21 + 3 * t2) none := by have q : XT cA ad en (21 + 3 * t2) (S.2.1 t2) := hC.rt h_t2; rw [hS_t2] at q; exact q
            refine lv_aload_n hx hb dX4_join_0 rfl (lv_at hl 0 rfl) ?_
            refine lv_iload_n hx hb dX4_join_1 rfl (lv_at hl 1 rfl) ?_
            refine xv_q (i := 0) (As := [.int (xI (t1 : Int))]) (rest := []) ⟨hx, hb, hml, hown, hts⟩ hl.1 (c_X4_textOf_in l D cA n ad en (by omega) hC t1 (by omega)) k_X4_textOf u_ml_RX4_97 hK hN hP (by omega) hC.1 rfl rfl rfl rfl (Nat.le_of_ble_eq_true rfl) ⟨Nat.le_of_ble_eq_true rfl, Nat.le_of_ble_eq_true rfl⟩ ⟨Nat.le_of_ble_eq_true rfl, Nat.le_of_ble_eq_true rfl⟩ dX4_join_2 ?_
            refine lv_astore (lv' := [(4, .ref (ad (21 + 3 * t1))), (0, .ref (ad 0)), (1, .int (xI (t1 : Int))), (2, .int (xI (t2 : Int))), (3, .int (xI z3))]) hx hb dX4_join_5 hl (by decide) rfl (fun ls hl => ?_)
            refine lv_aload_n hx hb dX4_join_7 rfl (lv_at hl 1 rfl) ?_
            refine lv_iload_n hx hb dX4_join_8 rfl (lv_at hl 3 rfl) ?_
            refine xv_q (i := 0) (As := [.int (xI (t2 : Int))]) (rest := []) ⟨hx, hb, hml, hown, hts⟩ hl.1 (c_X4_textOf_in l D cA n ad en (by omega) hC t2 (by omega)) k_X4_textOf u_ml_RX4_97 hK hN hP (by omega) hC.1 rfl rfl rfl rfl (Nat.le_of_ble_eq_true rfl) ⟨Nat.le_of_ble_eq_true rfl, Nat.le_of_ble_eq_true rfl⟩ ⟨Nat.le_of_ble_eq_true rfl, Nat.le_of_ble_eq_true rfl⟩ dX4_join_9 ?_
            refine lv_astore (lv' := [(5, .ref (ad (21 + 3 * t2))), (4, .ref (ad (21 + 3 * t1))), (0, .ref (ad 0)), (1, .int (xI (t1 : Int))), (2, .int (xI (t2 : Int))), (3, .int (xI z3))]) hx hb dX4_join_12 hl (by decide) rfl (fun ls hl => ?_)
            refine lv_aload_n hx hb dX4_join_14 rfl (lv_at hl 2 rfl) ?_
            refine lv_iload_n hx hb dX4_join_15 rfl (lv_at hl 5 rfl) ?_
            refine xv_q (i := 0) (As := [.int (xI z3)]) (rest := []) ⟨hx, hb, hml, hown, hts⟩ hl.1 (c_X4_textOf_out l D cA n ad en (by omega) hC z3 (by omega) (by omega)) k_X4_textOf u_ml_RX4_97 hK hN hP (by omega) hC.1 rfl rfl rfl rfl (Nat.le_of_ble_eq_true rfl) ⟨Nat.le_of_ble_eq_true rfl, Nat.le_of_ble_eq_true rfl⟩ ⟨Nat.le_of_ble_eq_true rfl, Nat.le_of_ble_eq_true rfl⟩ dX4_join_16 ?_
            refine lv_astoreN (lv' := [(6, .null), (5, .ref (ad (21 + 3 * t2))), (4, .ref (ad (21 + 3 * t1))), (0, .ref (ad 0)), (1, .int (xI (t1 : Int))), (2, .int (xI (t2 : Int))), (3, .int (xI z3))]) hx hb dX4_join_19 hl (by decide) rfl (fun ls hl => ?_)
            refine lv_aload hx hb dX4_join_21 (lv_at hl 2 rfl) ?_
            refine lv_ifnull hx hb dX4_join_23 ?_
            refine lv_aload hx hb dX4_join_26 (lv_at hl 1 rfl) ?_
            refine lv_ifnull hx hb dX4_join_28 ?_
            refine lv_aloadN hx hb dX4_join_31 (lv_at hl 0 rfl) ?_
            refine lv_ifnonnullN hx hb dX4_join_33 ?_
            refine x_sipush hx hb dX4_join_36 (by decide +kernel) ?_
            exact xe_i hx hb hrt hlocks hP hS ((by unfold am_join; simp only [Int.toNat_natCast]; rw [sp_if_t (by omega)]; exact ⟨rfl, hC, xO.rf⟩)) dX4_join_39
        · rcases Classical.em (0 ≤ z3 ∧ z3 < 8) with hx_z3 | hx_z3
          · obtain ⟨t3, rfl⟩ : ∃ q : Nat, z3 = (q : Int) := ⟨z3.toNat, by omega⟩
            have h_t3 : t3 < 8 := by omega
            have hT_t1 : XT cA ad en (21 + 3 * t1) none := by have q : XT cA ad en (21 + 3 * t1) (S.2.1 t1) := hC.rt h_t1; rw [hS_t1] at q; exact q
            have hT_t2 : XT cA ad en (21 + 3 * t2) (some r_t2) := by have q : XT cA ad en (21 + 3 * t2) (S.2.1 t2) := hC.rt h_t2; rw [hS_t2] at q; exact q
            have hr_t2 := hT_t2.2
            have hm_t2 := hr_t2.2.2.1
            have hT_t3 : XT cA ad en (21 + 3 * t3) (S.2.1 t3) := hC.rt h_t3
            obtain ⟨zm_t3, tm_t3, tf_t3, hO_t3, hr_t3⟩ := hT_t3.any
            refine lv_aload_n hx hb dX4_join_0 rfl (lv_at hl 0 rfl) ?_
            refine lv_iload_n hx hb dX4_join_1 rfl (lv_at hl 1 rfl) ?_
            refine xv_q (i := 0) (As := [.int (xI (t1 : Int))]) (rest := []) ⟨hx, hb, hml, hown, hts⟩ hl.1 (c_X4_textOf_in l D cA n ad en (by omega) hC t1 (by omega)) k_X4_textOf u_ml_RX4_97 hK hN hP (by omega) hC.1 rfl rfl rfl rfl (Nat.le_of_ble_eq_true rfl) ⟨Nat.le_of_ble_eq_true rfl, Nat.le_of_ble_eq_true rfl⟩ ⟨Nat.le_of_ble_eq_true rfl, Nat.le_of_ble_eq_true rfl⟩ dX4_join_2 ?_
            refine lv_astore (lv' := [(4, .ref (ad (21 + 3 * t1))), (0, .ref (ad 0)), (1, .int (xI (t1 : Int))), (2, .int (xI (t2 : Int))), (3, .int (xI (t3 : Int)))]) hx hb dX4_join_5 hl (by decide) rfl (fun ls hl => ?_)
            refine lv_aload_n hx hb dX4_join_7 rfl (lv_at hl 1 rfl) ?_
            refine lv_iload_n hx hb dX4_join_8 rfl (lv_at hl 3 rfl) ?_
            refine xv_q (i := 0) (As := [.int (xI (t2 : Int))]) (rest := []) ⟨hx, hb, hml, hown, hts⟩ hl.1 (c_X4_textOf_in l D cA n ad en (by omega) hC t2 (by omega)) k_X4_textOf u_ml_RX4_97 hK hN hP (by omega) hC.1 rfl rfl rfl rfl (Nat.le_of_ble_eq_true rfl) ⟨Nat.le_of_ble_eq_true rfl, Nat.le_of_ble_eq_true rfl⟩ ⟨Nat.le_of_ble_eq_true rfl, Nat.le_of_ble_eq_true rfl⟩ dX4_join_9 ?_
            refine lv_astore (lv' := [(5, .ref (ad (21 + 3 * t2))), (4, .ref (ad (21 + 3 * t1))), (0, .ref (ad 0)), (1, .int (xI (t1 : Int))), (2, .int (xI (t2 : Int))), (3, .int (xI (t3 : Int)))]) hx hb dX4_join_12 hl (by decide) rfl (fun ls hl => ?_)
            refine lv_aload_n hx hb dX4_join_14 rfl (lv_at hl 2 rfl) ?_
            refine lv_iload_n hx hb dX4_join_15 rfl (lv_at hl 5 rfl) ?_
            refine xv_q (i := 0) (As := [.int (xI (t3 : Int))]) (rest := []) ⟨hx, hb, hml, hown, hts⟩ hl.1 (c_X4_textOf_in l D cA n ad en (by omega) hC t3 (by omega)) k_X4_textOf u_ml_RX4_97 hK hN hP (by omega) hC.1 rfl rfl rfl rfl (Nat.le_of_ble_eq_true rfl) ⟨Nat.le_of_ble_eq_true rfl, Nat.le_of_ble_eq_true rfl⟩ ⟨Nat.le_of_ble_eq_true rfl, Nat.le_of_ble_eq_true rfl⟩ dX4_join_16 ?_
            refine lv_astore (lv' := [(6, .ref (ad (21 + 3 * t3))), (5, .ref (ad (21 + 3 * t2))), (4, .ref (ad (21 + 3 * t1))), (0, .ref (ad 0)), (1, .int (xI (t1 : Int))), (2, .int (xI (t2 : Int))), (3, .int (xI (t3 : Int)))]) hx hb dX4_join_19 hl (by decide) rfl (fun ls hl => ?_)
            refine lv_aload hx hb dX4_join_21 (lv_at hl 2 rfl) ?_
            refine lv_ifnull hx hb dX4_join_23 ?_
            refine lv_aload hx hb dX4_join_26 (lv_at hl 1 rfl) ?_
            refine lv_ifnull hx hb dX4_join_28 ?_
            refine lv_aload hx hb dX4_join_31 (lv_at hl 0 rfl) ?_
            refine lv_ifnonnull (tgt := 40) hx hb dX4_join_33 (by decide) ?_
            refine lv_aload hx hb dX4_join_40 (lv_at hl 2 rfl) ?_
            refine x_getn (T := TX3) (N := 2) hx hb hts uX3 hown hN hK hP (i := 21 + 3 * t1) (by omega) hT_t1.1 rfl 1 (by decide) (by simp only [xNest, List.mem_cons]; exact Or.inr (Or.inr (Or.inr (Or.inr (Or.inr (Or.inr (Or.inl rfl))))))) rfl dX4_join_42 ?_
            refine x_if_ne (tgt := 56) hx hb dX4_join_45 (by decide) (by omega) (fun c_45 => ?_) (fun c_45 => absurd c_45 (by omega))
            refine x_sipush hx hb dX4_join_56 (by decide +kernel) ?_
            exact xe_i hx hb hrt hlocks hP hS ((by unfold am_join; simp only [Int.toNat_natCast]; simp only [sp_get_s hS_t2]; rw [sp_if_f (by omega), sp_if_t (by simp [hS_t1, hS_t2])]; exact ⟨rfl, hC, xO.rf⟩)) dX4_join_59
          · have hT_t1 : XT cA ad en (21 + 3 * t1) none := by have q : XT cA ad en (21 + 3 * t1) (S.2.1 t1) := hC.rt h_t1; rw [hS_t1] at q; exact q
            have hT_t2 : XT cA ad en (21 + 3 * t2) (some r_t2) := by have q : XT cA ad en (21 + 3 * t2) (S.2.1 t2) := hC.rt h_t2; rw [hS_t2] at q; exact q
            have hr_t2 := hT_t2.2
            have hm_t2 := hr_t2.2.2.1
            refine lv_aload_n hx hb dX4_join_0 rfl (lv_at hl 0 rfl) ?_
            refine lv_iload_n hx hb dX4_join_1 rfl (lv_at hl 1 rfl) ?_
            refine xv_q (i := 0) (As := [.int (xI (t1 : Int))]) (rest := []) ⟨hx, hb, hml, hown, hts⟩ hl.1 (c_X4_textOf_in l D cA n ad en (by omega) hC t1 (by omega)) k_X4_textOf u_ml_RX4_97 hK hN hP (by omega) hC.1 rfl rfl rfl rfl (Nat.le_of_ble_eq_true rfl) ⟨Nat.le_of_ble_eq_true rfl, Nat.le_of_ble_eq_true rfl⟩ ⟨Nat.le_of_ble_eq_true rfl, Nat.le_of_ble_eq_true rfl⟩ dX4_join_2 ?_
            refine lv_astore (lv' := [(4, .ref (ad (21 + 3 * t1))), (0, .ref (ad 0)), (1, .int (xI (t1 : Int))), (2, .int (xI (t2 : Int))), (3, .int (xI z3))]) hx hb dX4_join_5 hl (by decide) rfl (fun ls hl => ?_)
            refine lv_aload_n hx hb dX4_join_7 rfl (lv_at hl 1 rfl) ?_
            refine lv_iload_n hx hb dX4_join_8 rfl (lv_at hl 3 rfl) ?_
            refine xv_q (i := 0) (As := [.int (xI (t2 : Int))]) (rest := []) ⟨hx, hb, hml, hown, hts⟩ hl.1 (c_X4_textOf_in l D cA n ad en (by omega) hC t2 (by omega)) k_X4_textOf u_ml_RX4_97 hK hN hP (by omega) hC.1 rfl rfl rfl rfl (Nat.le_of_ble_eq_true rfl) ⟨Nat.le_of_ble_eq_true rfl, Nat.le_of_ble_eq_true rfl⟩ ⟨Nat.le_of_ble_eq_true rfl, Nat.le_of_ble_eq_true rfl⟩ dX4_join_9 ?_
            refine lv_astore (lv' := [(5, .ref (ad (21 + 3 * t2))), (4, .ref (ad (21 + 3 * t1))), (0, .ref (ad 0)), (1, .int (xI (t1 : Int))), (2, .int (xI (t2 : Int))), (3, .int (xI z3))]) hx hb dX4_join_12 hl (by decide) rfl (fun ls hl => ?_)
            refine lv_aload_n hx hb dX4_join_14 rfl (lv_at hl 2 rfl) ?_
            refine lv_iload_n hx hb dX4_join_15 rfl (lv_at hl 5 rfl) ?_
            refine xv_q (i := 0) (As := [.int (xI z3)]) (rest := []) ⟨hx, hb, hml, hown, hts⟩ hl.1 (c_X4_textOf_out l D cA n ad en (by omega) hC z3 (by omega) (by omega)) k_X4_textOf u_ml_RX4_97 hK hN hP (by omega) hC.1 rfl rfl rfl rfl (Nat.le_of_ble_eq_true rfl) ⟨Nat.le_of_ble_eq_true rfl, Nat.le_of_ble_eq_true rfl⟩ ⟨Nat.le_of_ble_eq_true rfl, Nat.le_of_ble_eq_true rfl⟩ dX4_join_16 ?_
            refine lv_astoreN (lv' := [(6, .null), (5, .ref (ad (21 + 3 * t2))), (4, .ref (ad (21 + 3 * t1))), (0, .ref (ad 0)), (1, .int (xI (t1 : Int))), (2, .int (xI (t2 : Int))), (3, .int (xI z3))]) hx hb dX4_join_19 hl (by decide) rfl (fun ls hl => ?_)
            refine lv_aload hx hb dX4_join_21 (lv_at hl 2 rfl) ?_
            refine lv_ifnull hx hb dX4_join_23 ?_
            refine lv_aload hx hb dX4_join_26 (lv_at hl 1 rfl) ?_
            refine lv_ifnull hx hb dX4_join_28 ?_
            refine lv_aloadN hx hb dX4_join_31 (lv_at hl 0 rfl) ?_
            refine lv_ifnonnullN hx hb dX4_join_33 ?_
            refine x_sipush hx hb dX4_join_36 (by decide +kernel) ?_
            exact xe_i hx hb hrt hlocks hP hS ((by unfold am_join; simp only [Int.toNat_natCast]; simp only [sp_get_s hS_t2]; rw [sp_if_t (by omega)]; exact ⟨rfl, hC, xO.rf⟩)) dX4_join_39
      · rcases Classical.em (0 ≤ z3 ∧ z3 < 8) with hx_z3 | hx_z3
        · obtain ⟨t3, rfl⟩ : ∃ q : Nat, z3 = (q : Int) := ⟨z3.toNat, by omega⟩
          have h_t3 : t3 < 8 := by omega
          have hT_t1 : XT cA ad en (21 + 3 * t1) none := by have q : XT cA ad en (21 + 3 * t1) (S.2.1 t1) := hC.rt h_t1; rw [hS_t1] at q; exact q
          have hT_t3 : XT cA ad en (21 + 3 * t3) (S.2.1 t3) := hC.rt h_t3
          obtain ⟨zm_t3, tm_t3, tf_t3, hO_t3, hr_t3⟩ := hT_t3.any
          refine lv_aload_n hx hb dX4_join_0 rfl (lv_at hl 0 rfl) ?_
          refine lv_iload_n hx hb dX4_join_1 rfl (lv_at hl 1 rfl) ?_
          refine xv_q (i := 0) (As := [.int (xI (t1 : Int))]) (rest := []) ⟨hx, hb, hml, hown, hts⟩ hl.1 (c_X4_textOf_in l D cA n ad en (by omega) hC t1 (by omega)) k_X4_textOf u_ml_RX4_97 hK hN hP (by omega) hC.1 rfl rfl rfl rfl (Nat.le_of_ble_eq_true rfl) ⟨Nat.le_of_ble_eq_true rfl, Nat.le_of_ble_eq_true rfl⟩ ⟨Nat.le_of_ble_eq_true rfl, Nat.le_of_ble_eq_true rfl⟩ dX4_join_2 ?_
          refine lv_astore (lv' := [(4, .ref (ad (21 + 3 * t1))), (0, .ref (ad 0)), (1, .int (xI (t1 : Int))), (2, .int (xI z2)), (3, .int (xI (t3 : Int)))]) hx hb dX4_join_5 hl (by decide) rfl (fun ls hl => ?_)
          refine lv_aload_n hx hb dX4_join_7 rfl (lv_at hl 1 rfl) ?_
          refine lv_iload_n hx hb dX4_join_8 rfl (lv_at hl 3 rfl) ?_
          refine xv_q (i := 0) (As := [.int (xI z2)]) (rest := []) ⟨hx, hb, hml, hown, hts⟩ hl.1 (c_X4_textOf_out l D cA n ad en (by omega) hC z2 (by omega) (by omega)) k_X4_textOf u_ml_RX4_97 hK hN hP (by omega) hC.1 rfl rfl rfl rfl (Nat.le_of_ble_eq_true rfl) ⟨Nat.le_of_ble_eq_true rfl, Nat.le_of_ble_eq_true rfl⟩ ⟨Nat.le_of_ble_eq_true rfl, Nat.le_of_ble_eq_true rfl⟩ dX4_join_9 ?_
          refine lv_astoreN (lv' := [(5, .null), (4, .ref (ad (21 + 3 * t1))), (0, .ref (ad 0)), (1, .int (xI (t1 : Int))), (2, .int (xI z2)), (3, .int (xI (t3 : Int)))]) hx hb dX4_join_12 hl (by decide) rfl (fun ls hl => ?_)
          refine lv_aload_n hx hb dX4_join_14 rfl (lv_at hl 2 rfl) ?_
          refine lv_iload_n hx hb dX4_join_15 rfl (lv_at hl 5 rfl) ?_
          refine xv_q (i := 0) (As := [.int (xI (t3 : Int))]) (rest := []) ⟨hx, hb, hml, hown, hts⟩ hl.1 (c_X4_textOf_in l D cA n ad en (by omega) hC t3 (by omega)) k_X4_textOf u_ml_RX4_97 hK hN hP (by omega) hC.1 rfl rfl rfl rfl (Nat.le_of_ble_eq_true rfl) ⟨Nat.le_of_ble_eq_true rfl, Nat.le_of_ble_eq_true rfl⟩ ⟨Nat.le_of_ble_eq_true rfl, Nat.le_of_ble_eq_true rfl⟩ dX4_join_16 ?_
          refine lv_astore (lv' := [(6, .ref (ad (21 + 3 * t3))), (5, .null), (4, .ref (ad (21 + 3 * t1))), (0, .ref (ad 0)), (1, .int (xI (t1 : Int))), (2, .int (xI z2)), (3, .int (xI (t3 : Int)))]) hx hb dX4_join_19 hl (by decide) rfl (fun ls hl => ?_)
          refine lv_aload hx hb dX4_join_21 (lv_at hl 2 rfl) ?_
          refine lv_ifnull hx hb dX4_join_23 ?_
          refine lv_aloadN hx hb dX4_join_26 (lv_at hl 1 rfl) ?_
          refine lv_ifnullN (tgt := 36) hx hb dX4_join_28 (by decide) ?_
          refine x_sipush hx hb dX4_join_36 (by decide +kernel) ?_
          exact xe_i hx hb hrt hlocks hP hS ((by unfold am_join; simp only [Int.toNat_natCast]; rw [sp_if_t (by omega)]; exact ⟨rfl, hC, xO.rf⟩)) dX4_join_39
        · have hT_t1 : XT cA ad en (21 + 3 * t1) none := by have q : XT cA ad en (21 + 3 * t1) (S.2.1 t1) := hC.rt h_t1; rw [hS_t1] at q; exact q
          refine lv_aload_n hx hb dX4_join_0 rfl (lv_at hl 0 rfl) ?_
          refine lv_iload_n hx hb dX4_join_1 rfl (lv_at hl 1 rfl) ?_
          refine xv_q (i := 0) (As := [.int (xI (t1 : Int))]) (rest := []) ⟨hx, hb, hml, hown, hts⟩ hl.1 (c_X4_textOf_in l D cA n ad en (by omega) hC t1 (by omega)) k_X4_textOf u_ml_RX4_97 hK hN hP (by omega) hC.1 rfl rfl rfl rfl (Nat.le_of_ble_eq_true rfl) ⟨Nat.le_of_ble_eq_true rfl, Nat.le_of_ble_eq_true rfl⟩ ⟨Nat.le_of_ble_eq_true rfl, Nat.le_of_ble_eq_true rfl⟩ dX4_join_2 ?_
          refine lv_astore (lv' := [(4, .ref (ad (21 + 3 * t1))), (0, .ref (ad 0)), (1, .int (xI (t1 : Int))), (2, .int (xI z2)), (3, .int (xI z3))]) hx hb dX4_join_5 hl (by decide) rfl (fun ls hl => ?_)
          refine lv_aload_n hx hb dX4_join_7 rfl (lv_at hl 1 rfl) ?_
          refine lv_iload_n hx hb dX4_join_8 rfl (lv_at hl 3 rfl) ?_
          refine xv_q (i := 0) (As := [.int (xI z2)]) (rest := []) ⟨hx, hb, hml, hown, hts⟩ hl.1 (c_X4_textOf_out l D cA n ad en (by omega) hC z2 (by omega) (by omega)) k_X4_textOf u_ml_RX4_97 hK hN hP (by omega) hC.1 rfl rfl rfl rfl (Nat.le_of_ble_eq_true rfl) ⟨Nat.le_of_ble_eq_true rfl, Nat.le_of_ble_eq_true rfl⟩ ⟨Nat.le_of_ble_eq_true rfl, Nat.le_of_ble_eq_true rfl⟩ dX4_join_9 ?_
          refine lv_astoreN (lv' := [(5, .null), (4, .ref (ad (21 + 3 * t1))), (0, .ref (ad 0)), (1, .int (xI (t1 : Int))), (2, .int (xI z2)), (3, .int (xI z3))]) hx hb dX4_join_12 hl (by decide) rfl (fun ls hl => ?_)
          refine lv_aload_n hx hb dX4_join_14 rfl (lv_at hl 2 rfl) ?_
          refine lv_iload_n hx hb dX4_join_15 rfl (lv_at hl 5 rfl) ?_
          refine xv_q (i := 0) (As := [.int (xI z3)]) (rest := []) ⟨hx, hb, hml, hown, hts⟩ hl.1 (c_X4_textOf_out l D cA n ad en (by omega) hC z3 (by omega) (by omega)) k_X4_textOf u_ml_RX4_97 hK hN hP (by omega) hC.1 rfl rfl rfl rfl (Nat.le_of_ble_eq_true rfl) ⟨Nat.le_of_ble_eq_true rfl, Nat.le_of_ble_eq_true rfl⟩ ⟨Nat.le_of_ble_eq_true rfl, Nat.le_of_ble_eq_true rfl⟩ dX4_join_16 ?_
          refine lv_astoreN (lv' := [(6, .null), (5, .null), (4, .ref (ad (21 + 3 * t1))), (0, .ref (ad 0)), (1, .int (xI (t1 : Int))), (2, .int (xI z2)), (3, .int (xI z3))]) hx hb dX4_join_19 hl (by decide) rfl (fun ls hl => ?_)
          refine lv_aload hx hb dX4_join_21 (lv_at hl 2 rfl) ?_
          refine lv_ifnull hx hb dX4_join_23 ?_
          refine lv_aloadN hx hb dX4_join_26 (lv_at hl 1 rfl) ?_
          refine lv_ifnullN (tgt := 36) hx hb dX4_join_28 (by decide) ?_
          refine x_sipush hx hb dX4_join_36 (by decide +kernel) ?_
          exact xe_i hx hb hrt hlocks hP hS ((by unfold am_join; simp only [Int.toNat_natCast]; rw [sp_if_t (by omega)]; exact ⟨rfl, hC, xO.rf⟩)) dX4_join_39
    · rcases Classical.em (0 ≤ z2 ∧ z2 < 8) with hx_z2 | hx_z2
      · obtain ⟨t2, rfl⟩ : ∃ q : Nat, z2 = (q : Int) := ⟨z2.toNat, by omega⟩
        have h_t2 : t2 < 8 := by omega
        rcases hS_t2 : S.2.1 t2 with _ | r_t2
        · rcases Classical.em (0 ≤ z3 ∧ z3 < 8) with hx_z3 | hx_z3
          · obtain ⟨t3, rfl⟩ : ∃ q : Nat, z3 = (q : Int) := ⟨z3.toNat, by omega⟩
            have h_t3 : t3 < 8 := by omega
            have hT_t1 : XT cA ad en (21 + 3 * t1) (some r_t1) := by have q : XT cA ad en (21 + 3 * t1) (S.2.1 t1) := hC.rt h_t1; rw [hS_t1] at q; exact q
            have hr_t1 := hT_t1.2
            have hm_t1 := hr_t1.2.2.1
            have hT_t2 : XT cA ad en (21 + 3 * t2) none := by have q : XT cA ad en (21 + 3 * t2) (S.2.1 t2) := hC.rt h_t2; rw [hS_t2] at q; exact q
            have hT_t3 : XT cA ad en (21 + 3 * t3) (S.2.1 t3) := hC.rt h_t3
            obtain ⟨zm_t3, tm_t3, tf_t3, hO_t3, hr_t3⟩ := hT_t3.any
            refine lv_aload_n hx hb dX4_join_0 rfl (lv_at hl 0 rfl) ?_
            refine lv_iload_n hx hb dX4_join_1 rfl (lv_at hl 1 rfl) ?_
            refine xv_q (i := 0) (As := [.int (xI (t1 : Int))]) (rest := []) ⟨hx, hb, hml, hown, hts⟩ hl.1 (c_X4_textOf_in l D cA n ad en (by omega) hC t1 (by omega)) k_X4_textOf u_ml_RX4_97 hK hN hP (by omega) hC.1 rfl rfl rfl rfl (Nat.le_of_ble_eq_true rfl) ⟨Nat.le_of_ble_eq_true rfl, Nat.le_of_ble_eq_true rfl⟩ ⟨Nat.le_of_ble_eq_true rfl, Nat.le_of_ble_eq_true rfl⟩ dX4_join_2 ?_
            refine lv_astore (lv' := [(4, .ref (ad (21 + 3 * t1))), (0, .ref (ad 0)), (1, .int (xI (t1 : Int))), (2, .int (xI (t2 : Int))), (3, .int (xI (t3 : Int)))]) hx hb dX4_join_5 hl (by decide) rfl (fun ls hl => ?_)
            refine lv_aload_n hx hb dX4_join_7 rfl (lv_at hl 1 rfl) ?_
            refine lv_iload_n hx hb dX4_join_8 rfl (lv_at hl 3 rfl) ?_
            refine xv_q (i := 0) (As := [.int (xI (t2 : Int))]) (rest := []) ⟨hx, hb, hml, hown, hts⟩ hl.1 (c_X4_textOf_in l D cA n ad en (by omega) hC t2 (by omega)) k_X4_textOf u_ml_RX4_97 hK hN hP (by omega) hC.1 rfl rfl rfl rfl (Nat.le_of_ble_eq_true rfl) ⟨Nat.le_of_ble_eq_true rfl, Nat.le_of_ble_eq_true rfl⟩ ⟨Nat.le_of_ble_eq_true rfl, Nat.le_of_ble_eq_true rfl⟩ dX4_join_9 ?_
            refine lv_astore (lv' := [(5, .ref (ad (21 + 3 * t2))), (4, .ref (ad (21 + 3 * t1))), (0, .ref (ad 0)), (1, .int (xI (t1 : Int))), (2, .int (xI (t2 : Int))), (3, .int (xI (t3 : Int)))]) hx hb dX4_join_12 hl (by decide) rfl (fun ls hl => ?_)
            refine lv_aload_n hx hb dX4_join_14 rfl (lv_at hl 2 rfl) ?_
            refine lv_iload_n hx hb dX4_join_15 rfl (lv_at hl 5 rfl) ?_
            refine xv_q (i := 0) (As := [.int (xI (t3 : Int))]) (rest := []) ⟨hx, hb, hml, hown, hts⟩ hl.1 (c_X4_textOf_in l D cA n ad en (by omega) hC t3 (by omega)) k_X4_textOf u_ml_RX4_97 hK hN hP (by omega) hC.1 rfl rfl rfl rfl (Nat.le_of_ble_eq_true rfl) ⟨Nat.le_of_ble_eq_true rfl, Nat.le_of_ble_eq_true rfl⟩ ⟨Nat.le_of_ble_eq_true rfl, Nat.le_of_ble_eq_true rfl⟩ dX4_join_16 ?_
            refine lv_astore (lv' := [(6, .ref (ad (21 + 3 * t3))), (5, .ref (ad (21 + 3 * t2))), (4, .ref (ad (21 + 3 * t1))), (0, .ref (ad 0)), (1, .int (xI (t1 : Int))), (2, .int (xI (t2 : Int))), (3, .int (xI (t3 : Int)))]) hx hb dX4_join_19 hl (by decide) rfl (fun ls hl => ?_)
            refine lv_aload hx hb dX4_join_21 (lv_at hl 2 rfl) ?_
            refine lv_ifnull hx hb dX4_join_23 ?_
            refine lv_aload hx hb dX4_join_26 (lv_at hl 1 rfl) ?_
            refine lv_ifnull hx hb dX4_join_28 ?_
            refine lv_aload hx hb dX4_join_31 (lv_at hl 0 rfl) ?_
            refine lv_ifnonnull (tgt := 40) hx hb dX4_join_33 (by decide) ?_
            refine lv_aload hx hb dX4_join_40 (lv_at hl 2 rfl) ?_
            refine x_getn (T := TX3) (N := 2) hx hb hts uX3 hown hN hK hP (i := 21 + 3 * t1) (by omega) hT_t1.1 rfl 1 (by decide) (by simp only [xNest, List.mem_cons]; exact Or.inr (Or.inr (Or.inr (Or.inr (Or.inr (Or.inr (Or.inl rfl))))))) rfl dX4_join_42 ?_
            refine x_if_ne (tgt := 56) hx hb dX4_join_45 (by decide) (by omega) (fun c_45 => absurd c_45 (by omega)) (fun c_45 => ?_)
            refine lv_aload hx hb dX4_join_48 (lv_at hl 1 rfl) ?_
            refine x_getn (T := TX3) (N := 2) hx hb hts uX3 hown hN hK hP (i := 21 + 3 * t2) (by omega) hT_t2.1 rfl 1 (by decide) (by simp only [xNest, List.mem_cons]; exact Or.inr (Or.inr (Or.inr (Or.inr (Or.inr (Or.inr (Or.inl rfl))))))) rfl dX4_join_50 ?_
            refine x_if_eq (tgt := 60) hx hb dX4_join_53 (by decide) (by omega) (fun c_53 => absurd c_53 (by omega)) (fun c_53 => ?_)
            refine x_sipush hx hb dX4_join_56 (by decide +kernel) ?_
            exact xe_i hx hb hrt hlocks hP hS ((by unfold am_join; simp only [Int.toNat_natCast]; simp only [sp_get_s hS_t1]; rw [sp_if_f (by omega), sp_if_t (by simp [hS_t1, hS_t2])]; exact ⟨rfl, hC, xO.rf⟩)) dX4_join_59
          · have hT_t1 : XT cA ad en (21 + 3 * t1) (some r_t1) := by have q : XT cA ad en (21 + 3 * t1) (S.2.1 t1) := hC.rt h_t1; rw [hS_t1] at q; exact q
            have hr_t1 := hT_t1.2
            have hm_t1 := hr_t1.2.2.1
            have hT_t2 : XT cA ad en (21 + 3 * t2) none := by have q : XT cA ad en (21 + 3 * t2) (S.2.1 t2) := hC.rt h_t2; rw [hS_t2] at q; exact q
            refine lv_aload_n hx hb dX4_join_0 rfl (lv_at hl 0 rfl) ?_
            refine lv_iload_n hx hb dX4_join_1 rfl (lv_at hl 1 rfl) ?_
            refine xv_q (i := 0) (As := [.int (xI (t1 : Int))]) (rest := []) ⟨hx, hb, hml, hown, hts⟩ hl.1 (c_X4_textOf_in l D cA n ad en (by omega) hC t1 (by omega)) k_X4_textOf u_ml_RX4_97 hK hN hP (by omega) hC.1 rfl rfl rfl rfl (Nat.le_of_ble_eq_true rfl) ⟨Nat.le_of_ble_eq_true rfl, Nat.le_of_ble_eq_true rfl⟩ ⟨Nat.le_of_ble_eq_true rfl, Nat.le_of_ble_eq_true rfl⟩ dX4_join_2 ?_
            refine lv_astore (lv' := [(4, .ref (ad (21 + 3 * t1))), (0, .ref (ad 0)), (1, .int (xI (t1 : Int))), (2, .int (xI (t2 : Int))), (3, .int (xI z3))]) hx hb dX4_join_5 hl (by decide) rfl (fun ls hl => ?_)
            refine lv_aload_n hx hb dX4_join_7 rfl (lv_at hl 1 rfl) ?_
            refine lv_iload_n hx hb dX4_join_8 rfl (lv_at hl 3 rfl) ?_
            refine xv_q (i := 0) (As := [.int (xI (t2 : Int))]) (rest := []) ⟨hx, hb, hml, hown, hts⟩ hl.1 (c_X4_textOf_in l D cA n ad en (by omega) hC t2 (by omega)) k_X4_textOf u_ml_RX4_97 hK hN hP (by omega) hC.1 rfl rfl rfl rfl (Nat.le_of_ble_eq_true rfl) ⟨Nat.le_of_ble_eq_true rfl, Nat.le_of_ble_eq_true rfl⟩ ⟨Nat.le_of_ble_eq_true rfl, Nat.le_of_ble_eq_true rfl⟩ dX4_join_9 ?_
            refine lv_astore (lv' := [(5, .ref (ad (21 + 3 * t2))), (4, .ref (ad (21 + 3 * t1))), (0, .ref (ad 0)), (1, .int (xI (t1 : Int))), (2, .int (xI (t2 : Int))), (3, .int (xI z3))]) hx hb dX4_join_12 hl (by decide) rfl (fun ls hl => ?_)
            refine lv_aload_n hx hb dX4_join_14 rfl (lv_at hl 2 rfl) ?_
            refine lv_iload_n hx hb dX4_join_15 rfl (lv_at hl 5 rfl) ?_
            refine xv_q (i := 0) (As := [.int (xI z3)]) (rest := []) ⟨hx, hb, hml, hown, hts⟩ hl.1 (c_X4_textOf_out l D cA n ad en (by omega) hC z3 (by omega) (by omega)) k_X4_textOf u_ml_RX4_97 hK hN hP (by omega) hC.1 rfl rfl rfl rfl (Nat.le_of_ble_eq_true rfl) ⟨Nat.le_of_ble_eq_true rfl, Nat.le_of_ble_eq_true rfl⟩ ⟨Nat.le_of_ble_eq_true rfl, Nat.le_of_ble_eq_true rfl⟩ dX4_join_16 ?_
            refine lv_astoreN (lv' := [(6, .null), (5, .ref (ad (21 + 3 * t2))), (4, .ref (ad (21 + 3 * t1))), (0, .ref (ad 0)), (1, .int (xI (t1 : Int))), (2, .int (xI (t2 : Int))), (3, .int (xI z3))]) hx hb dX4_join_19 hl (by decide) rfl (fun ls hl => ?_)
            refine lv_aload hx hb dX4_join_21 (lv_at hl 2 rfl) ?_
            refine lv_ifnull hx hb dX4_join_23 ?_
            refine lv_aload hx hb dX4_join_26 (lv_at hl 1 rfl) ?_
            refine lv_ifnull hx hb dX4_join_28 ?_
            refine lv_aloadN hx hb dX4_join_31 (lv_at hl 0 rfl) ?_
            refine lv_ifnonnullN hx hb dX4_join_33 ?_
            refine x_sipush hx hb dX4_join_36 (by decide +kernel) ?_
            exact xe_i hx hb hrt hlocks hP hS ((by unfold am_join; simp only [Int.toNat_natCast]; simp only [sp_get_s hS_t1]; rw [sp_if_t (by omega)]; exact ⟨rfl, hC, xO.rf⟩)) dX4_join_39
        · rcases Classical.em (0 ≤ z3 ∧ z3 < 8) with hx_z3 | hx_z3
          · obtain ⟨t3, rfl⟩ : ∃ q : Nat, z3 = (q : Int) := ⟨z3.toNat, by omega⟩
            have h_t3 : t3 < 8 := by omega
            have hT_t1 : XT cA ad en (21 + 3 * t1) (some r_t1) := by have q : XT cA ad en (21 + 3 * t1) (S.2.1 t1) := hC.rt h_t1; rw [hS_t1] at q; exact q
            have hr_t1 := hT_t1.2
            have hm_t1 := hr_t1.2.2.1
            have hT_t2 : XT cA ad en (21 + 3 * t2) (some r_t2) := by have q : XT cA ad en (21 + 3 * t2) (S.2.1 t2) := hC.rt h_t2; rw [hS_t2] at q; exact q
            have hr_t2 := hT_t2.2
            have hm_t2 := hr_t2.2.2.1
            have hT_t3 : XT cA ad en (21 + 3 * t3) (S.2.1 t3) := hC.rt h_t3
            obtain ⟨zm_t3, tm_t3, tf_t3, hO_t3, hr_t3⟩ := hT_t3.any
            refine lv_aload_n hx hb dX4_join_0 rfl (lv_at hl 0 rfl) ?_
            refine lv_iload_n hx hb dX4_join_1 rfl (lv_at hl 1 rfl) ?_
            refine xv_q (i := 0) (As := [.int (xI (t1 : Int))]) (rest := []) ⟨hx, hb, hml, hown, hts⟩ hl.1 (c_X4_textOf_in l D cA n ad en (by omega) hC t1 (by omega)) k_X4_textOf u_ml_RX4_97 hK hN hP (by omega) hC.1 rfl rfl rfl rfl (Nat.le_of_ble_eq_true rfl) ⟨Nat.le_of_ble_eq_true rfl, Nat.le_of_ble_eq_true rfl⟩ ⟨Nat.le_of_ble_eq_true rfl, Nat.le_of_ble_eq_true rfl⟩ dX4_join_2 ?_
            refine lv_astore (lv' := [(4, .ref (ad (21 + 3 * t1))), (0, .ref (ad 0)), (1, .int (xI (t1 : Int))), (2, .int (xI (t2 : Int))), (3, .int (xI (t3 : Int)))]) hx hb dX4_join_5 hl (by decide) rfl (fun ls hl => ?_)
            refine lv_aload_n hx hb dX4_join_7 rfl (lv_at hl 1 rfl) ?_
            refine lv_iload_n hx hb dX4_join_8 rfl (lv_at hl 3 rfl) ?_
            refine xv_q (i := 0) (As := [.int (xI (t2 : Int))]) (rest := []) ⟨hx, hb, hml, hown, hts⟩ hl.1 (c_X4_textOf_in l D cA n ad en (by omega) hC t2 (by omega)) k_X4_textOf u_ml_RX4_97 hK hN hP (by omega) hC.1 rfl rfl rfl rfl (Nat.le_of_ble_eq_true rfl) ⟨Nat.le_of_ble_eq_true rfl, Nat.le_of_ble_eq_true rfl⟩ ⟨Nat.le_of_ble_eq_true rfl, Nat.le_of_ble_eq_true rfl⟩ dX4_join_9 ?_
            refine lv_astore (lv' := [(5, .ref (ad (21 + 3 * t2))), (4, .ref (ad (21 + 3 * t1))), (0, .ref (ad 0)), (1, .int (xI (t1 : Int))), (2, .int (xI (t2 : Int))), (3, .int (xI (t3 : Int)))]) hx hb dX4_join_12 hl (by decide) rfl (fun ls hl => ?_)
            refine lv_aload_n hx hb dX4_join_14 rfl (lv_at hl 2 rfl) ?_
            refine lv_iload_n hx hb dX4_join_15 rfl (lv_at hl 5 rfl) ?_
            refine xv_q (i := 0) (As := [.int (xI (t3 : Int))]) (rest := []) ⟨hx, hb, hml, hown, hts⟩ hl.1 (c_X4_textOf_in l D cA n ad en (by omega) hC t3 (by omega)) k_X4_textOf u_ml_RX4_97 hK hN hP (by omega) hC.1 rfl rfl rfl rfl (Nat.le_of_ble_eq_true rfl) ⟨Nat.le_of_ble_eq_true rfl, Nat.le_of_ble_eq_true rfl⟩ ⟨Nat.le_of_ble_eq_true rfl, Nat.le_of_ble_eq_true rfl⟩ dX4_join_16 ?_
            refine lv_astore (lv' := [(6, .ref (ad (21 + 3 * t3))), (5, .ref (ad (21 + 3 * t2))), (4, .ref (ad (21 + 3 * t1))), (0, .ref (ad 0)), (1, .int (xI (t1 : Int))), (2, .int (xI (t2 : Int))), (3, .int (xI (t3 : Int)))]) hx hb dX4_join_19 hl (by decide) rfl (fun ls hl => ?_)
            refine lv_aload hx hb dX4_join_21 (lv_at hl 2 rfl) ?_
            refine lv_ifnull hx hb dX4_join_23 ?_
            refine lv_aload hx hb dX4_join_26 (lv_at hl 1 rfl) ?_
            refine lv_ifnull hx hb dX4_join_28 ?_
            refine lv_aload hx hb dX4_join_31 (lv_at hl 0 rfl) ?_
            refine lv_ifnonnull (tgt := 40) hx hb dX4_join_33 (by decide) ?_
            refine lv_aload hx hb dX4_join_40 (lv_at hl 2 rfl) ?_
            refine x_getn (T := TX3) (N := 2) hx hb hts uX3 hown hN hK hP (i := 21 + 3 * t1) (by omega) hT_t1.1 rfl 1 (by decide) (by simp only [xNest, List.mem_cons]; exact Or.inr (Or.inr (Or.inr (Or.inr (Or.inr (Or.inr (Or.inl rfl))))))) rfl dX4_join_42 ?_
            refine x_if_ne (tgt := 56) hx hb dX4_join_45 (by decide) (by omega) (fun c_45 => absurd c_45 (by omega)) (fun c_45 => ?_)
            refine lv_aload hx hb dX4_join_48 (lv_at hl 1 rfl) ?_
            refine x_getn (T := TX3) (N := 2) hx hb hts uX3 hown hN hK hP (i := 21 + 3 * t2) (by omega) hT_t2.1 rfl 1 (by decide) (by simp only [xNest, List.mem_cons]; exact Or.inr (Or.inr (Or.inr (Or.inr (Or.inr (Or.inr (Or.inl rfl))))))) rfl dX4_join_50 ?_
            refine x_if_eq (tgt := 60) hx hb dX4_join_53 (by decide) (by omega) (fun c_53 => ?_) (fun c_53 => absurd c_53 (by omega))
            refine lv_aload_n hx hb dX4_join_60 rfl (lv_at hl 3 rfl) ?_
            obtain ⟨m0, f0, hr0⟩ := hC.rs
            refine xm_q (i := 0) (As := []) (rest := []) ⟨hx, hb, hml, hown, hts⟩ hl.1 (c_X4_nothing l D cA n ad en _ (by omega) hC hr0) k_X4_nothing u_ml_RX4_86 hK hN hP (by omega) hC.1 rfl rfl rfl rfl (Nat.le_of_ble_eq_true rfl) ⟨Nat.le_of_ble_eq_true rfl, Nat.le_of_ble_eq_true rfl⟩ ⟨Nat.le_of_ble_eq_true rfl, Nat.le_of_ble_eq_true rfl⟩ dX4_join_61 hD hS hA (fun r1 en1 H locs hp1 hP hS => ?_)
            obtain ⟨hr9, hrs, hos⟩ := hp1
            subst hr9
            have hC := hC.spare hos hrs
            have ho : xO 0 53 en en1 := hos.mo (by omega) (by omega)
            have hT_t1 : XT cA ad en1 (21 + 3 * t1) (some r_t1) := by have q : XT cA ad en1 (21 + 3 * t1) (S.2.1 t1) := hC.rt h_t1; rw [hS_t1] at q; exact q
            have hr_t1 := hT_t1.2
            have hm_t1 := hr_t1.2.2.1
            have hT_t2 : XT cA ad en1 (21 + 3 * t2) (some r_t2) := by have q : XT cA ad en1 (21 + 3 * t2) (S.2.1 t2) := hC.rt h_t2; rw [hS_t2] at q; exact q
            have hr_t2 := hT_t2.2
            have hm_t2 := hr_t2.2.2.1
            have hT_t3 : XT cA ad en1 (21 + 3 * t3) (S.2.1 t3) := hC.rt h_t3
            obtain ⟨zm_t3, tm_t3, tf_t3, hO_t3, hr_t3⟩ := hT_t3.any
            refine lv_astore (lv' := [(7, .ref (ad 11)), (6, .ref (ad (21 + 3 * t3))), (5, .ref (ad (21 + 3 * t2))), (4, .ref (ad (21 + 3 * t1))), (0, .ref (ad 0)), (1, .int (xI (t1 : Int))), (2, .int (xI (t2 : Int))), (3, .int (xI (t3 : Int)))]) hx hb dX4_join_64 hl (by decide) rfl (fun ls hl => ?_)
            refine lv_aload hx hb dX4_join_66 (lv_at hl 0 rfl) ?_
            refine x_iconst hx hb dX4_join_68 ?_
            refine lv_aload hx hb dX4_join_69 (lv_at hl 3 rfl) ?_
            refine x_getn (T := TX3) (N := 2) hx hb hts uX3 hown hN hK hP (i := 21 + 3 * t1) (by omega) hT_t1.1 rfl 0 (by decide) (by simp only [xNest, List.mem_cons]; exact Or.inr (Or.inr (Or.inr (Or.inr (Or.inr (Or.inl rfl)))))) rfl dX4_join_71 ?_
            refine xm_i (i := 11) (As := [.int (xI 0), .ref (ad (21 + 3 * t1 + 1))]) (rest := []) ⟨hx, hb, hml, hown, hts⟩ hl.1 (c_X2_joinIn l D cA n ad en1 _ (by omega) hrs (by omega) hr_t1 (by omega) 0 (by omega)) k_X2_joinIn u_ml_RX4_67 hK hN hP (by omega) hrs.1 rfl rfl rfl rfl (Nat.le_of_ble_eq_true rfl) ⟨Nat.le_of_ble_eq_true rfl, Nat.le_of_ble_eq_true rfl⟩ ⟨Nat.le_of_ble_eq_true rfl, Nat.le_of_ble_eq_true rfl⟩ dX4_join_74 hD hS hA (fun r2 en2 H locs hp2 hP hS => ?_)
            rcases hp2 with hbad | hbad | ⟨-, -, hrv, hx1, hos⟩
            · exact absurd ⟨⟨by omega, by omega, by omega⟩, by omega, by omega, by omega⟩ hbad.1
            · exact absurd hbad.2.1 (by omega)
            · subst hrv
              have hrs := hx1.to (m' := r_t1.1) (f' := r_t1.2) (by omega) (fun t ht => by simp only [sp_ed]; rw [if_neg (by omega), if_pos (by omega)]; exact congrArg r_t1.2 (by omega))
              have hC := hC.spare hos hrs
              have ho : xO 0 53 en en2 := ho.tr (hos.mo (by omega) (by omega))
              have hT_t1 : XT cA ad en2 (21 + 3 * t1) (some r_t1) := by have q : XT cA ad en2 (21 + 3 * t1) (S.2.1 t1) := hC.rt h_t1; rw [hS_t1] at q; exact q
              have hr_t1 := hT_t1.2
              have hm_t1 := hr_t1.2.2.1
              have hT_t2 : XT cA ad en2 (21 + 3 * t2) (some r_t2) := by have q : XT cA ad en2 (21 + 3 * t2) (S.2.1 t2) := hC.rt h_t2; rw [hS_t2] at q; exact q
              have hr_t2 := hT_t2.2
              have hm_t2 := hr_t2.2.2.1
              have hT_t3 : XT cA ad en2 (21 + 3 * t3) (S.2.1 t3) := hC.rt h_t3
              obtain ⟨zm_t3, tm_t3, tf_t3, hO_t3, hr_t3⟩ := hT_t3.any
              refine lv_pop hx hb dX4_join_77 rfl ?_
              refine lv_aload hx hb dX4_join_78 (lv_at hl 0 rfl) ?_
              refine lv_aload hx hb dX4_join_80 (lv_at hl 0 rfl) ?_
              refine x_getn (T := TX2) (N := 2) hx hb hts uX2 hown hN hK hP (i := 11) (by omega) hrs.1 rfl 1 (by decide) (by simp only [xNest, List.mem_cons]; exact Or.inr (Or.inl rfl)) rfl dX4_join_82 ?_
              refine lv_aload hx hb dX4_join_85 (lv_at hl 2 rfl) ?_
              refine x_getn (T := TX3) (N := 2) hx hb hts uX3 hown hN hK hP (i := 21 + 3 * t2) (by omega) hT_t2.1 rfl 0 (by decide) (by simp only [xNest, List.mem_cons]; exact Or.inr (Or.inr (Or.inr (Or.inr (Or.inr (Or.inl rfl)))))) rfl dX4_join_87 ?_
              refine xm_i (i := 11) (As := [.int (xI ((r_t1.1 : Nat) : Int)), .ref (ad (21 + 3 * t2 + 1))]) (rest := []) ⟨hx, hb, hml, hown, hts⟩ hl.1 (c_X2_joinIn l D cA n ad en2 _ (by omega) hrs (by omega) hr_t2 (by omega) ((r_t1.1 : Nat) : Int) (by omega)) k_X2_joinIn u_ml_RX4_67 hK hN hP (by omega) hrs.1 rfl rfl rfl rfl (Nat.le_of_ble_eq_true rfl) ⟨Nat.le_of_ble_eq_true rfl, Nat.le_of_ble_eq_true rfl⟩ ⟨Nat.le_of_ble_eq_true rfl, Nat.le_of_ble_eq_true rfl⟩ dX4_join_90 hD hS hA (fun r3 en3 H locs hp3 hP hS => ?_)
              rcases hp3 with hbad | ⟨-, hfu, hrv, hu⟩ | ⟨-, hfu, hrv, hx1, hos⟩
              · exact absurd ⟨⟨by omega, by omega, by omega⟩, by omega, by omega, by omega⟩ hbad.1
              · subst hrv
                rw [hu] at hP
                refine lv_istore (lv' := [(8, .int (xI (-1007))), (7, .ref (ad 11)), (6, .ref (ad (21 + 3 * t3))), (5, .ref (ad (21 + 3 * t2))), (4, .ref (ad (21 + 3 * t1))), (0, .ref (ad 0)), (1, .int (xI (t1 : Int))), (2, .int (xI (t2 : Int))), (3, .int (xI (t3 : Int)))]) hx hb dX4_join_93 hl (by decide) rfl (fun ls hl => ?_)
                refine lv_iload hx hb dX4_join_95 (lv_at hl 0 rfl) ?_
                refine x_if_ge (tgt := 105) hx hb dX4_join_97 (by decide) (by omega) (fun c_97 => absurd c_97 (by omega)) (fun c_97 => ?_)
                refine lv_iload hx hb dX4_join_100 (lv_at hl 0 rfl) ?_
                refine lv_goto (tgt := 118) hx hb dX4_join_102 (by decide) ?_
                exact xe_i hx hb hrt hlocks hP hS ((by unfold am_join; simp only [Int.toNat_natCast]; simp only [sp_get_s hS_t1, sp_get_s hS_t2]; rw [sp_if_f (by omega), sp_if_f (by simp [hS_t1, hS_t2]), sp_if_t (by omega)]; exact ⟨rfl, hC, ho⟩)) dX4_join_118
              · subst hrv
                have hrs := hx1.to (m' := (r_t1.1 + r_t2.1)) (f' := (fun q => if q < r_t1.1 then r_t1.2 q else r_t2.2 (q - r_t1.1))) (by omega) (fun t ht => by
        simp only [sp_ed]
        by_cases q1 : t < r_t1.1
        · rw [if_pos (by omega), if_pos q1]
        · rw [if_neg (by omega), if_pos (by omega), if_neg q1]; exact congrArg r_t2.2 (by omega))
                have hC := hC.spare hos hrs
                have ho : xO 0 53 en en3 := ho.tr (hos.mo (by omega) (by omega))
                have hT_t1 : XT cA ad en3 (21 + 3 * t1) (some r_t1) := by have q : XT cA ad en3 (21 + 3 * t1) (S.2.1 t1) := hC.rt h_t1; rw [hS_t1] at q; exact q
                have hr_t1 := hT_t1.2
                have hm_t1 := hr_t1.2.2.1
                have hT_t2 : XT cA ad en3 (21 + 3 * t2) (some r_t2) := by have q : XT cA ad en3 (21 + 3 * t2) (S.2.1 t2) := hC.rt h_t2; rw [hS_t2] at q; exact q
                have hr_t2 := hT_t2.2
                have hm_t2 := hr_t2.2.2.1
                have hT_t3 : XT cA ad en3 (21 + 3 * t3) (S.2.1 t3) := hC.rt h_t3
                obtain ⟨zm_t3, tm_t3, tf_t3, hO_t3, hr_t3⟩ := hT_t3.any
                refine lv_istore (lv' := [(8, .int (xI (((r_t1.1 : Nat) : Int) - (((r_t1.1 : Nat) : Int) - ((r_t1.1 : Nat) : Int)) + ((r_t2.1 : Int) - 0)))), (7, .ref (ad 11)), (6, .ref (ad (21 + 3 * t3))), (5, .ref (ad (21 + 3 * t2))), (4, .ref (ad (21 + 3 * t1))), (0, .ref (ad 0)), (1, .int (xI (t1 : Int))), (2, .int (xI (t2 : Int))), (3, .int (xI (t3 : Int)))]) hx hb dX4_join_93 hl (by decide) rfl (fun ls hl => ?_)
                refine lv_iload hx hb dX4_join_95 (lv_at hl 0 rfl) ?_
                refine x_if_ge (tgt := 105) hx hb dX4_join_97 (by decide) (by omega) (fun c_97 => ?_) (fun c_97 => absurd c_97 (by omega))
                refine lv_aload hx hb dX4_join_105 (lv_at hl 2 rfl) ?_
                refine lv_aload hx hb dX4_join_107 (lv_at hl 1 rfl) ?_
                refine x_iconst hx hb dX4_join_109 ?_
                refine lv_aload hx hb dX4_join_110 (lv_at hl 1 rfl) ?_
                refine x_getn (T := TX2) (N := 2) hx hb hts uX2 hown hN hK hP (i := 11) (by omega) hrs.1 rfl 1 (by decide) (by simp only [xNest, List.mem_cons]; exact Or.inr (Or.inl rfl)) rfl dX4_join_112 ?_
                refine xm_i (i := 21 + 3 * t3) (As := [.ref (ad 11), .int (xI 0), .int (xI (((r_t1.1 + r_t2.1) : Nat) : Int))]) (rest := []) ⟨hx, hb, hml, hown, hts⟩ hl.1 (c_X3_become l D cA n ad en3 _ (by omega) hT_t3 (by omega) hrs (by omega) 0 (((r_t1.1 + r_t2.1) : Nat) : Int) (by omega) (by omega)) k_X3_become u_ml_RX4_129 hK hN hP (by omega) hO_t3 rfl rfl rfl rfl (Nat.le_of_ble_eq_true rfl) ⟨Nat.le_of_ble_eq_true rfl, Nat.le_of_ble_eq_true rfl⟩ ⟨Nat.le_of_ble_eq_true rfl, Nat.le_of_ble_eq_true rfl⟩ dX4_join_115 hD hS hA (fun r4 en4 H locs hp4 hP hS => ?_)
                rcases hp4 with ⟨hsp, hrv, hx1, hoc⟩ | ⟨hsp, hrv, hu⟩
                · subst hrv
                  have hC9 := hC.text h_t3 (hoc.mo (by omega) (by omega)) hx1
                  have ho : xO 0 53 en en4 := ho.tr (hoc.mo (by omega) (by omega))
                  exact xe_i hx hb hrt hlocks hP hS ((by unfold am_join; simp only [Int.toNat_natCast]; simp only [sp_get_s hS_t1, sp_get_s hS_t2]; rw [sp_if_f (by omega), sp_if_f (by simp [hS_t1, hS_t2]), sp_if_f (by omega)]; exact ⟨congrArg xI (by omega), CW_eqt hC9 (by omega) (fun t _ => by simp only [show Int.toNat 0 + t = t from Nat.zero_add t]), ho⟩)) dX4_join_118
                · exact absurd (by omega) hsp
          · have hT_t1 : XT cA ad en (21 + 3 * t1) (some r_t1) := by have q : XT cA ad en (21 + 3 * t1) (S.2.1 t1) := hC.rt h_t1; rw [hS_t1] at q; exact q
            have hr_t1 := hT_t1.2
            have hm_t1 := hr_t1.2.2.1
            have hT_t2 : XT cA ad en (21 + 3 * t2) (some r_t2) := by have q : XT cA ad en (21 + 3 * t2) (S.2.1 t2) := hC.rt h_t2; rw [hS_t2] at q; exact q
            have hr_t2 := hT_t2.2
            have hm_t2 := hr_t2.2.2.1
            refine lv_aload_n hx hb dX4_join_0 rfl (lv_at hl 0 rfl) ?_
            refine lv_iload_n hx hb dX4_join_1 rfl (lv_at hl 1 rfl) ?_
            refine xv_q (i := 0) (As := [.int (xI (t1 : Int))]) (rest := []) ⟨hx, hb, hml, hown, hts⟩ hl.1 (c_X4_textOf_in l D cA n ad en (by omega) hC t1 (by omega)) k_X4_textOf u_ml_RX4_97 hK hN hP (by omega) hC.1 rfl rfl rfl rfl (Nat.le_of_ble_eq_true rfl) ⟨Nat.le_of_ble_eq_true rfl, Nat.le_of_ble_eq_true rfl⟩ ⟨Nat.le_of_ble_eq_true rfl, Nat.le_of_ble_eq_true rfl⟩ dX4_join_2 ?_
            refine lv_astore (lv' := [(4, .ref (ad (21 + 3 * t1))), (0, .ref (ad 0)), (1, .int (xI (t1 : Int))), (2, .int (xI (t2 : Int))), (3, .int (xI z3))]) hx hb dX4_join_5 hl (by decide) rfl (fun ls hl => ?_)
            refine lv_aload_n hx hb dX4_join_7 rfl (lv_at hl 1 rfl) ?_
            refine lv_iload_n hx hb dX4_join_8 rfl (lv_at hl 3 rfl) ?_
            refine xv_q (i := 0) (As := [.int (xI (t2 : Int))]) (rest := []) ⟨hx, hb, hml, hown, hts⟩ hl.1 (c_X4_textOf_in l D cA n ad en (by omega) hC t2 (by omega)) k_X4_textOf u_ml_RX4_97 hK hN hP (by omega) hC.1 rfl rfl rfl rfl (Nat.le_of_ble_eq_true rfl) ⟨Nat.le_of_ble_eq_true rfl, Nat.le_of_ble_eq_true rfl⟩ ⟨Nat.le_of_ble_eq_true rfl, Nat.le_of_ble_eq_true rfl⟩ dX4_join_9 ?_
            refine lv_astore (lv' := [(5, .ref (ad (21 + 3 * t2))), (4, .ref (ad (21 + 3 * t1))), (0, .ref (ad 0)), (1, .int (xI (t1 : Int))), (2, .int (xI (t2 : Int))), (3, .int (xI z3))]) hx hb dX4_join_12 hl (by decide) rfl (fun ls hl => ?_)
            refine lv_aload_n hx hb dX4_join_14 rfl (lv_at hl 2 rfl) ?_
            refine lv_iload_n hx hb dX4_join_15 rfl (lv_at hl 5 rfl) ?_
            refine xv_q (i := 0) (As := [.int (xI z3)]) (rest := []) ⟨hx, hb, hml, hown, hts⟩ hl.1 (c_X4_textOf_out l D cA n ad en (by omega) hC z3 (by omega) (by omega)) k_X4_textOf u_ml_RX4_97 hK hN hP (by omega) hC.1 rfl rfl rfl rfl (Nat.le_of_ble_eq_true rfl) ⟨Nat.le_of_ble_eq_true rfl, Nat.le_of_ble_eq_true rfl⟩ ⟨Nat.le_of_ble_eq_true rfl, Nat.le_of_ble_eq_true rfl⟩ dX4_join_16 ?_
            refine lv_astoreN (lv' := [(6, .null), (5, .ref (ad (21 + 3 * t2))), (4, .ref (ad (21 + 3 * t1))), (0, .ref (ad 0)), (1, .int (xI (t1 : Int))), (2, .int (xI (t2 : Int))), (3, .int (xI z3))]) hx hb dX4_join_19 hl (by decide) rfl (fun ls hl => ?_)
            refine lv_aload hx hb dX4_join_21 (lv_at hl 2 rfl) ?_
            refine lv_ifnull hx hb dX4_join_23 ?_
            refine lv_aload hx hb dX4_join_26 (lv_at hl 1 rfl) ?_
            refine lv_ifnull hx hb dX4_join_28 ?_
            refine lv_aloadN hx hb dX4_join_31 (lv_at hl 0 rfl) ?_
            refine lv_ifnonnullN hx hb dX4_join_33 ?_
            refine x_sipush hx hb dX4_join_36 (by decide +kernel) ?_
            exact xe_i hx hb hrt hlocks hP hS ((by unfold am_join; simp only [Int.toNat_natCast]; simp only [sp_get_s hS_t1, sp_get_s hS_t2]; rw [sp_if_t (by omega)]; exact ⟨rfl, hC, xO.rf⟩)) dX4_join_39
      · rcases Classical.em (0 ≤ z3 ∧ z3 < 8) with hx_z3 | hx_z3
        · obtain ⟨t3, rfl⟩ : ∃ q : Nat, z3 = (q : Int) := ⟨z3.toNat, by omega⟩
          have h_t3 : t3 < 8 := by omega
          have hT_t1 : XT cA ad en (21 + 3 * t1) (some r_t1) := by have q : XT cA ad en (21 + 3 * t1) (S.2.1 t1) := hC.rt h_t1; rw [hS_t1] at q; exact q
          have hr_t1 := hT_t1.2
          have hm_t1 := hr_t1.2.2.1
          have hT_t3 : XT cA ad en (21 + 3 * t3) (S.2.1 t3) := hC.rt h_t3
          obtain ⟨zm_t3, tm_t3, tf_t3, hO_t3, hr_t3⟩ := hT_t3.any
          refine lv_aload_n hx hb dX4_join_0 rfl (lv_at hl 0 rfl) ?_
          refine lv_iload_n hx hb dX4_join_1 rfl (lv_at hl 1 rfl) ?_
          refine xv_q (i := 0) (As := [.int (xI (t1 : Int))]) (rest := []) ⟨hx, hb, hml, hown, hts⟩ hl.1 (c_X4_textOf_in l D cA n ad en (by omega) hC t1 (by omega)) k_X4_textOf u_ml_RX4_97 hK hN hP (by omega) hC.1 rfl rfl rfl rfl (Nat.le_of_ble_eq_true rfl) ⟨Nat.le_of_ble_eq_true rfl, Nat.le_of_ble_eq_true rfl⟩ ⟨Nat.le_of_ble_eq_true rfl, Nat.le_of_ble_eq_true rfl⟩ dX4_join_2 ?_
          refine lv_astore (lv' := [(4, .ref (ad (21 + 3 * t1))), (0, .ref (ad 0)), (1, .int (xI (t1 : Int))), (2, .int (xI z2)), (3, .int (xI (t3 : Int)))]) hx hb dX4_join_5 hl (by decide) rfl (fun ls hl => ?_)
          refine lv_aload_n hx hb dX4_join_7 rfl (lv_at hl 1 rfl) ?_
          refine lv_iload_n hx hb dX4_join_8 rfl (lv_at hl 3 rfl) ?_
          refine xv_q (i := 0) (As := [.int (xI z2)]) (rest := []) ⟨hx, hb, hml, hown, hts⟩ hl.1 (c_X4_textOf_out l D cA n ad en (by omega) hC z2 (by omega) (by omega)) k_X4_textOf u_ml_RX4_97 hK hN hP (by omega) hC.1 rfl rfl rfl rfl (Nat.le_of_ble_eq_true rfl) ⟨Nat.le_of_ble_eq_true rfl, Nat.le_of_ble_eq_true rfl⟩ ⟨Nat.le_of_ble_eq_true rfl, Nat.le_of_ble_eq_true rfl⟩ dX4_join_9 ?_
          refine lv_astoreN (lv' := [(5, .null), (4, .ref (ad (21 + 3 * t1))), (0, .ref (ad 0)), (1, .int (xI (t1 : Int))), (2, .int (xI z2)), (3, .int (xI (t3 : Int)))]) hx hb dX4_join_12 hl (by decide) rfl (fun ls hl => ?_)
          refine lv_aload_n hx hb dX4_join_14 rfl (lv_at hl 2 rfl) ?_
          refine lv_iload_n hx hb dX4_join_15 rfl (lv_at hl 5 rfl) ?_
          refine xv_q (i := 0) (As := [.int (xI (t3 : Int))]) (rest := []) ⟨hx, hb, hml, hown, hts⟩ hl.1 (c_X4_textOf_in l D cA n ad en (by omega) hC t3 (by omega)) k_X4_textOf u_ml_RX4_97 hK hN hP (by omega) hC.1 rfl rfl rfl rfl (Nat.le_of_ble_eq_true rfl) ⟨Nat.le_of_ble_eq_true rfl, Nat.le_of_ble_eq_true rfl⟩ ⟨Nat.le_of_ble_eq_true rfl, Nat.le_of_ble_eq_true rfl⟩ dX4_join_16 ?_
          refine lv_astore (lv' := [(6, .ref (ad (21 + 3 * t3))), (5, .null), (4, .ref (ad (21 + 3 * t1))), (0, .ref (ad 0)), (1, .int (xI (t1 : Int))), (2, .int (xI z2)), (3, .int (xI (t3 : Int)))]) hx hb dX4_join_19 hl (by decide) rfl (fun ls hl => ?_)
          refine lv_aload hx hb dX4_join_21 (lv_at hl 2 rfl) ?_
          refine lv_ifnull hx hb dX4_join_23 ?_
          refine lv_aloadN hx hb dX4_join_26 (lv_at hl 1 rfl) ?_
          refine lv_ifnullN (tgt := 36) hx hb dX4_join_28 (by decide) ?_
          refine x_sipush hx hb dX4_join_36 (by decide +kernel) ?_
          exact xe_i hx hb hrt hlocks hP hS ((by unfold am_join; simp only [Int.toNat_natCast]; simp only [sp_get_s hS_t1]; rw [sp_if_t (by omega)]; exact ⟨rfl, hC, xO.rf⟩)) dX4_join_39
        · have hT_t1 : XT cA ad en (21 + 3 * t1) (some r_t1) := by have q : XT cA ad en (21 + 3 * t1) (S.2.1 t1) := hC.rt h_t1; rw [hS_t1] at q; exact q
          have hr_t1 := hT_t1.2
          have hm_t1 := hr_t1.2.2.1
          refine lv_aload_n hx hb dX4_join_0 rfl (lv_at hl 0 rfl) ?_
          refine lv_iload_n hx hb dX4_join_1 rfl (lv_at hl 1 rfl) ?_
          refine xv_q (i := 0) (As := [.int (xI (t1 : Int))]) (rest := []) ⟨hx, hb, hml, hown, hts⟩ hl.1 (c_X4_textOf_in l D cA n ad en (by omega) hC t1 (by omega)) k_X4_textOf u_ml_RX4_97 hK hN hP (by omega) hC.1 rfl rfl rfl rfl (Nat.le_of_ble_eq_true rfl) ⟨Nat.le_of_ble_eq_true rfl, Nat.le_of_ble_eq_true rfl⟩ ⟨Nat.le_of_ble_eq_true rfl, Nat.le_of_ble_eq_true rfl⟩ dX4_join_2 ?_
          refine lv_astore (lv' := [(4, .ref (ad (21 + 3 * t1))), (0, .ref (ad 0)), (1, .int (xI (t1 : Int))), (2, .int (xI z2)), (3, .int (xI z3))]) hx hb dX4_join_5 hl (by decide) rfl (fun ls hl => ?_)
          refine lv_aload_n hx hb dX4_join_7 rfl (lv_at hl 1 rfl) ?_
          refine lv_iload_n hx hb dX4_join_8 rfl (lv_at hl 3 rfl) ?_
          refine xv_q (i := 0) (As := [.int (xI z2)]) (rest := []) ⟨hx, hb, hml, hown, hts⟩ hl.1 (c_X4_textOf_out l D cA n ad en (by omega) hC z2 (by omega) (by omega)) k_X4_textOf u_ml_RX4_97 hK hN hP (by omega) hC.1 rfl rfl rfl rfl (Nat.le_of_ble_eq_true rfl) ⟨Nat.le_of_ble_eq_true rfl, Nat.le_of_ble_eq_true rfl⟩ ⟨Nat.le_of_ble_eq_true rfl, Nat.le_of_ble_eq_true rfl⟩ dX4_join_9 ?_
          refine lv_astoreN (lv' := [(5, .null), (4, .ref (ad (21 + 3 * t1))), (0, .ref (ad 0)), (1, .int (xI (t1 : Int))), (2, .int (xI z2)), (3, .int (xI z3))]) hx hb dX4_join_12 hl (by decide) rfl (fun ls hl => ?_)
          refine lv_aload_n hx hb dX4_join_14 rfl (lv_at hl 2 rfl) ?_
          refine lv_iload_n hx hb dX4_join_15 rfl (lv_at hl 5 rfl) ?_
          refine xv_q (i := 0) (As := [.int (xI z3)]) (rest := []) ⟨hx, hb, hml, hown, hts⟩ hl.1 (c_X4_textOf_out l D cA n ad en (by omega) hC z3 (by omega) (by omega)) k_X4_textOf u_ml_RX4_97 hK hN hP (by omega) hC.1 rfl rfl rfl rfl (Nat.le_of_ble_eq_true rfl) ⟨Nat.le_of_ble_eq_true rfl, Nat.le_of_ble_eq_true rfl⟩ ⟨Nat.le_of_ble_eq_true rfl, Nat.le_of_ble_eq_true rfl⟩ dX4_join_16 ?_
          refine lv_astoreN (lv' := [(6, .null), (5, .null), (4, .ref (ad (21 + 3 * t1))), (0, .ref (ad 0)), (1, .int (xI (t1 : Int))), (2, .int (xI z2)), (3, .int (xI z3))]) hx hb dX4_join_19 hl (by decide) rfl (fun ls hl => ?_)
          refine lv_aload hx hb dX4_join_21 (lv_at hl 2 rfl) ?_
          refine lv_ifnull hx hb dX4_join_23 ?_
          refine lv_aloadN hx hb dX4_join_26 (lv_at hl 1 rfl) ?_
          refine lv_ifnullN (tgt := 36) hx hb dX4_join_28 (by decide) ?_
          refine x_sipush hx hb dX4_join_36 (by decide +kernel) ?_
          exact xe_i hx hb hrt hlocks hP hS ((by unfold am_join; simp only [Int.toNat_natCast]; simp only [sp_get_s hS_t1]; rw [sp_if_t (by omega)]; exact ⟨rfl, hC, xO.rf⟩)) dX4_join_39
  · rcases Classical.em (0 ≤ z2 ∧ z2 < 8) with hx_z2 | hx_z2
    · obtain ⟨t2, rfl⟩ : ∃ q : Nat, z2 = (q : Int) := ⟨z2.toNat, by omega⟩
      have h_t2 : t2 < 8 := by omega
      rcases hS_t2 : S.2.1 t2 with _ | r_t2
      · rcases Classical.em (0 ≤ z3 ∧ z3 < 8) with hx_z3 | hx_z3
        · obtain ⟨t3, rfl⟩ : ∃ q : Nat, z3 = (q : Int) := ⟨z3.toNat, by omega⟩
          have h_t3 : t3 < 8 := by omega
          have hT_t2 : XT cA ad en (21 + 3 * t2) none := by have q : XT cA ad en (21 + 3 * t2) (S.2.1 t2) := hC.rt h_t2; rw [hS_t2] at q; exact q
          have hT_t3 : XT cA ad en (21 + 3 * t3) (S.2.1 t3) := hC.rt h_t3
          obtain ⟨zm_t3, tm_t3, tf_t3, hO_t3, hr_t3⟩ := hT_t3.any
          refine lv_aload_n hx hb dX4_join_0 rfl (lv_at hl 0 rfl) ?_
          refine lv_iload_n hx hb dX4_join_1 rfl (lv_at hl 1 rfl) ?_
          refine xv_q (i := 0) (As := [.int (xI z1)]) (rest := []) ⟨hx, hb, hml, hown, hts⟩ hl.1 (c_X4_textOf_out l D cA n ad en (by omega) hC z1 (by omega) (by omega)) k_X4_textOf u_ml_RX4_97 hK hN hP (by omega) hC.1 rfl rfl rfl rfl (Nat.le_of_ble_eq_true rfl) ⟨Nat.le_of_ble_eq_true rfl, Nat.le_of_ble_eq_true rfl⟩ ⟨Nat.le_of_ble_eq_true rfl, Nat.le_of_ble_eq_true rfl⟩ dX4_join_2 ?_
          refine lv_astoreN (lv' := [(4, .null), (0, .ref (ad 0)), (1, .int (xI z1)), (2, .int (xI (t2 : Int))), (3, .int (xI (t3 : Int)))]) hx hb dX4_join_5 hl (by decide) rfl (fun ls hl => ?_)
          refine lv_aload_n hx hb dX4_join_7 rfl (lv_at hl 1 rfl) ?_
          refine lv_iload_n hx hb dX4_join_8 rfl (lv_at hl 3 rfl) ?_
          refine xv_q (i := 0) (As := [.int (xI (t2 : Int))]) (rest := []) ⟨hx, hb, hml, hown, hts⟩ hl.1 (c_X4_textOf_in l D cA n ad en (by omega) hC t2 (by omega)) k_X4_textOf u_ml_RX4_97 hK hN hP (by omega) hC.1 rfl rfl rfl rfl (Nat.le_of_ble_eq_true rfl) ⟨Nat.le_of_ble_eq_true rfl, Nat.le_of_ble_eq_true rfl⟩ ⟨Nat.le_of_ble_eq_true rfl, Nat.le_of_ble_eq_true rfl⟩ dX4_join_9 ?_
          refine lv_astore (lv' := [(5, .ref (ad (21 + 3 * t2))), (4, .null), (0, .ref (ad 0)), (1, .int (xI z1)), (2, .int (xI (t2 : Int))), (3, .int (xI (t3 : Int)))]) hx hb dX4_join_12 hl (by decide) rfl (fun ls hl => ?_)
          refine lv_aload_n hx hb dX4_join_14 rfl (lv_at hl 2 rfl) ?_
          refine lv_iload_n hx hb dX4_join_15 rfl (lv_at hl 5 rfl) ?_
          refine xv_q (i := 0) (As := [.int (xI (t3 : Int))]) (rest := []) ⟨hx, hb, hml, hown, hts⟩ hl.1 (c_X4_textOf_in l D cA n ad en (by omega) hC t3 (by omega)) k_X4_textOf u_ml_RX4_97 hK hN hP (by omega) hC.1 rfl rfl rfl rfl (Nat.le_of_ble_eq_true rfl) ⟨Nat.le_of_ble_eq_true rfl, Nat.le_of_ble_eq_true rfl⟩ ⟨Nat.le_of_ble_eq_true rfl, Nat.le_of_ble_eq_true rfl⟩ dX4_join_16 ?_
          refine lv_astore (lv' := [(6, .ref (ad (21 + 3 * t3))), (5, .ref (ad (21 + 3 * t2))), (4, .null), (0, .ref (ad 0)), (1, .int (xI z1)), (2, .int (xI (t2 : Int))), (3, .int (xI (t3 : Int)))]) hx hb dX4_join_19 hl (by decide) rfl (fun ls hl => ?_)
          refine lv_aloadN hx hb dX4_join_21 (lv_at hl 2 rfl) ?_
          refine lv_ifnullN (tgt := 36) hx hb dX4_join_23 (by decide) ?_
          refine x_sipush hx hb dX4_join_36 (by decide +kernel) ?_
          exact xe_i hx hb hrt hlocks hP hS ((by unfold am_join; simp only [Int.toNat_natCast]; rw [sp_if_t (by omega)]; exact ⟨rfl, hC, xO.rf⟩)) dX4_join_39
        · have hT_t2 : XT cA ad en (21 + 3 * t2) none := by have q : XT cA ad en (21 + 3 * t2) (S.2.1 t2) := hC.rt h_t2; rw [hS_t2] at q; exact q
          refine lv_aload_n hx hb dX4_join_0 rfl (lv_at hl 0 rfl) ?_
          refine lv_iload_n hx hb dX4_join_1 rfl (lv_at hl 1 rfl) ?_
          refine xv_q (i := 0) (As := [.int (xI z1)]) (rest := []) ⟨hx, hb, hml, hown, hts⟩ hl.1 (c_X4_textOf_out l D cA n ad en (by omega) hC z1 (by omega) (by omega)) k_X4_textOf u_ml_RX4_97 hK hN hP (by omega) hC.1 rfl rfl rfl rfl (Nat.le_of_ble_eq_true rfl) ⟨Nat.le_of_ble_eq_true rfl, Nat.le_of_ble_eq_true rfl⟩ ⟨Nat.le_of_ble_eq_true rfl, Nat.le_of_ble_eq_true rfl⟩ dX4_join_2 ?_
          refine lv_astoreN (lv' := [(4, .null), (0, .ref (ad 0)), (1, .int (xI z1)), (2, .int (xI (t2 : Int))), (3, .int (xI z3))]) hx hb dX4_join_5 hl (by decide) rfl (fun ls hl => ?_)
          refine lv_aload_n hx hb dX4_join_7 rfl (lv_at hl 1 rfl) ?_
          refine lv_iload_n hx hb dX4_join_8 rfl (lv_at hl 3 rfl) ?_
          refine xv_q (i := 0) (As := [.int (xI (t2 : Int))]) (rest := []) ⟨hx, hb, hml, hown, hts⟩ hl.1 (c_X4_textOf_in l D cA n ad en (by omega) hC t2 (by omega)) k_X4_textOf u_ml_RX4_97 hK hN hP (by omega) hC.1 rfl rfl rfl rfl (Nat.le_of_ble_eq_true rfl) ⟨Nat.le_of_ble_eq_true rfl, Nat.le_of_ble_eq_true rfl⟩ ⟨Nat.le_of_ble_eq_true rfl, Nat.le_of_ble_eq_true rfl⟩ dX4_join_9 ?_
          refine lv_astore (lv' := [(5, .ref (ad (21 + 3 * t2))), (4, .null), (0, .ref (ad 0)), (1, .int (xI z1)), (2, .int (xI (t2 : Int))), (3, .int (xI z3))]) hx hb dX4_join_12 hl (by decide) rfl (fun ls hl => ?_)
          refine lv_aload_n hx hb dX4_join_14 rfl (lv_at hl 2 rfl) ?_
          refine lv_iload_n hx hb dX4_join_15 rfl (lv_at hl 5 rfl) ?_
          refine xv_q (i := 0) (As := [.int (xI z3)]) (rest := []) ⟨hx, hb, hml, hown, hts⟩ hl.1 (c_X4_textOf_out l D cA n ad en (by omega) hC z3 (by omega) (by omega)) k_X4_textOf u_ml_RX4_97 hK hN hP (by omega) hC.1 rfl rfl rfl rfl (Nat.le_of_ble_eq_true rfl) ⟨Nat.le_of_ble_eq_true rfl, Nat.le_of_ble_eq_true rfl⟩ ⟨Nat.le_of_ble_eq_true rfl, Nat.le_of_ble_eq_true rfl⟩ dX4_join_16 ?_
          refine lv_astoreN (lv' := [(6, .null), (5, .ref (ad (21 + 3 * t2))), (4, .null), (0, .ref (ad 0)), (1, .int (xI z1)), (2, .int (xI (t2 : Int))), (3, .int (xI z3))]) hx hb dX4_join_19 hl (by decide) rfl (fun ls hl => ?_)
          refine lv_aloadN hx hb dX4_join_21 (lv_at hl 2 rfl) ?_
          refine lv_ifnullN (tgt := 36) hx hb dX4_join_23 (by decide) ?_
          refine x_sipush hx hb dX4_join_36 (by decide +kernel) ?_
          exact xe_i hx hb hrt hlocks hP hS ((by unfold am_join; simp only [Int.toNat_natCast]; rw [sp_if_t (by omega)]; exact ⟨rfl, hC, xO.rf⟩)) dX4_join_39
      · rcases Classical.em (0 ≤ z3 ∧ z3 < 8) with hx_z3 | hx_z3
        · obtain ⟨t3, rfl⟩ : ∃ q : Nat, z3 = (q : Int) := ⟨z3.toNat, by omega⟩
          have h_t3 : t3 < 8 := by omega
          have hT_t2 : XT cA ad en (21 + 3 * t2) (some r_t2) := by have q : XT cA ad en (21 + 3 * t2) (S.2.1 t2) := hC.rt h_t2; rw [hS_t2] at q; exact q
          have hr_t2 := hT_t2.2
          have hm_t2 := hr_t2.2.2.1
          have hT_t3 : XT cA ad en (21 + 3 * t3) (S.2.1 t3) := hC.rt h_t3
          obtain ⟨zm_t3, tm_t3, tf_t3, hO_t3, hr_t3⟩ := hT_t3.any
          refine lv_aload_n hx hb dX4_join_0 rfl (lv_at hl 0 rfl) ?_
          refine lv_iload_n hx hb dX4_join_1 rfl (lv_at hl 1 rfl) ?_
          refine xv_q (i := 0) (As := [.int (xI z1)]) (rest := []) ⟨hx, hb, hml, hown, hts⟩ hl.1 (c_X4_textOf_out l D cA n ad en (by omega) hC z1 (by omega) (by omega)) k_X4_textOf u_ml_RX4_97 hK hN hP (by omega) hC.1 rfl rfl rfl rfl (Nat.le_of_ble_eq_true rfl) ⟨Nat.le_of_ble_eq_true rfl, Nat.le_of_ble_eq_true rfl⟩ ⟨Nat.le_of_ble_eq_true rfl, Nat.le_of_ble_eq_true rfl⟩ dX4_join_2 ?_
          refine lv_astoreN (lv' := [(4, .null), (0, .ref (ad 0)), (1, .int (xI z1)), (2, .int (xI (t2 : Int))), (3, .int (xI (t3 : Int)))]) hx hb dX4_join_5 hl (by decide) rfl (fun ls hl => ?_)
          refine lv_aload_n hx hb dX4_join_7 rfl (lv_at hl 1 rfl) ?_
          refine lv_iload_n hx hb dX4_join_8 rfl (lv_at hl 3 rfl) ?_
          refine xv_q (i := 0) (As := [.int (xI (t2 : Int))]) (rest := []) ⟨hx, hb, hml, hown, hts⟩ hl.1 (c_X4_textOf_in l D cA n ad en (by omega) hC t2 (by omega)) k_X4_textOf u_ml_RX4_97 hK hN hP (by omega) hC.1 rfl rfl rfl rfl (Nat.le_of_ble_eq_true rfl) ⟨Nat.le_of_ble_eq_true rfl, Nat.le_of_ble_eq_true rfl⟩ ⟨Nat.le_of_ble_eq_true rfl, Nat.le_of_ble_eq_true rfl⟩ dX4_join_9 ?_
          refine lv_astore (lv' := [(5, .ref (ad (21 + 3 * t2))), (4, .null), (0, .ref (ad 0)), (1, .int (xI z1)), (2, .int (xI (t2 : Int))), (3, .int (xI (t3 : Int)))]) hx hb dX4_join_12 hl (by decide) rfl (fun ls hl => ?_)
          refine lv_aload_n hx hb dX4_join_14 rfl (lv_at hl 2 rfl) ?_
          refine lv_iload_n hx hb dX4_join_15 rfl (lv_at hl 5 rfl) ?_
          refine xv_q (i := 0) (As := [.int (xI (t3 : Int))]) (rest := []) ⟨hx, hb, hml, hown, hts⟩ hl.1 (c_X4_textOf_in l D cA n ad en (by omega) hC t3 (by omega)) k_X4_textOf u_ml_RX4_97 hK hN hP (by omega) hC.1 rfl rfl rfl rfl (Nat.le_of_ble_eq_true rfl) ⟨Nat.le_of_ble_eq_true rfl, Nat.le_of_ble_eq_true rfl⟩ ⟨Nat.le_of_ble_eq_true rfl, Nat.le_of_ble_eq_true rfl⟩ dX4_join_16 ?_
          refine lv_astore (lv' := [(6, .ref (ad (21 + 3 * t3))), (5, .ref (ad (21 + 3 * t2))), (4, .null), (0, .ref (ad 0)), (1, .int (xI z1)), (2, .int (xI (t2 : Int))), (3, .int (xI (t3 : Int)))]) hx hb dX4_join_19 hl (by decide) rfl (fun ls hl => ?_)
          refine lv_aloadN hx hb dX4_join_21 (lv_at hl 2 rfl) ?_
          refine lv_ifnullN (tgt := 36) hx hb dX4_join_23 (by decide) ?_
          refine x_sipush hx hb dX4_join_36 (by decide +kernel) ?_
          exact xe_i hx hb hrt hlocks hP hS ((by unfold am_join; simp only [Int.toNat_natCast]; simp only [sp_get_s hS_t2]; rw [sp_if_t (by omega)]; exact ⟨rfl, hC, xO.rf⟩)) dX4_join_39
        · have hT_t2 : XT cA ad en (21 + 3 * t2) (some r_t2) := by have q : XT cA ad en (21 + 3 * t2) (S.2.1 t2) := hC.rt h_t2; rw [hS_t2] at q; exact q
          have hr_t2 := hT_t2.2
          have hm_t2 := hr_t2.2.2.1
          refine lv_aload_n hx hb dX4_join_0 rfl (lv_at hl 0 rfl) ?_
          refine lv_iload_n hx hb dX4_join_1 rfl (lv_at hl 1 rfl) ?_
          refine xv_q (i := 0) (As := [.int (xI z1)]) (rest := []) ⟨hx, hb, hml, hown, hts⟩ hl.1 (c_X4_textOf_out l D cA n ad en (by omega) hC z1 (by omega) (by omega)) k_X4_textOf u_ml_RX4_97 hK hN hP (by omega) hC.1 rfl rfl rfl rfl (Nat.le_of_ble_eq_true rfl) ⟨Nat.le_of_ble_eq_true rfl, Nat.le_of_ble_eq_true rfl⟩ ⟨Nat.le_of_ble_eq_true rfl, Nat.le_of_ble_eq_true rfl⟩ dX4_join_2 ?_
          refine lv_astoreN (lv' := [(4, .null), (0, .ref (ad 0)), (1, .int (xI z1)), (2, .int (xI (t2 : Int))), (3, .int (xI z3))]) hx hb dX4_join_5 hl (by decide) rfl (fun ls hl => ?_)
          refine lv_aload_n hx hb dX4_join_7 rfl (lv_at hl 1 rfl) ?_
          refine lv_iload_n hx hb dX4_join_8 rfl (lv_at hl 3 rfl) ?_
          refine xv_q (i := 0) (As := [.int (xI (t2 : Int))]) (rest := []) ⟨hx, hb, hml, hown, hts⟩ hl.1 (c_X4_textOf_in l D cA n ad en (by omega) hC t2 (by omega)) k_X4_textOf u_ml_RX4_97 hK hN hP (by omega) hC.1 rfl rfl rfl rfl (Nat.le_of_ble_eq_true rfl) ⟨Nat.le_of_ble_eq_true rfl, Nat.le_of_ble_eq_true rfl⟩ ⟨Nat.le_of_ble_eq_true rfl, Nat.le_of_ble_eq_true rfl⟩ dX4_join_9 ?_
          refine lv_astore (lv' := [(5, .ref (ad (21 + 3 * t2))), (4, .null), (0, .ref (ad 0)), (1, .int (xI z1)), (2, .int (xI (t2 : Int))), (3, .int (xI z3))]) hx hb dX4_join_12 hl (by decide) rfl (fun ls hl => ?_)
          refine lv_aload_n hx hb dX4_join_14 rfl (lv_at hl 2 rfl) ?_
          refine lv_iload_n hx hb dX4_join_15 rfl (lv_at hl 5 rfl) ?_
          refine xv_q (i := 0) (As := [.int (xI z3)]) (rest := []) ⟨hx, hb, hml, hown, hts⟩ hl.1 (c_X4_textOf_out l D cA n ad en (by omega) hC z3 (by omega) (by omega)) k_X4_textOf u_ml_RX4_97 hK hN hP (by omega) hC.1 rfl rfl rfl rfl (Nat.le_of_ble_eq_true rfl) ⟨Nat.le_of_ble_eq_true rfl, Nat.le_of_ble_eq_true rfl⟩ ⟨Nat.le_of_ble_eq_true rfl, Nat.le_of_ble_eq_true rfl⟩ dX4_join_16 ?_
          refine lv_astoreN (lv' := [(6, .null), (5, .ref (ad (21 + 3 * t2))), (4, .null), (0, .ref (ad 0)), (1, .int (xI z1)), (2, .int (xI (t2 : Int))), (3, .int (xI z3))]) hx hb dX4_join_19 hl (by decide) rfl (fun ls hl => ?_)
          refine lv_aloadN hx hb dX4_join_21 (lv_at hl 2 rfl) ?_
          refine lv_ifnullN (tgt := 36) hx hb dX4_join_23 (by decide) ?_
          refine x_sipush hx hb dX4_join_36 (by decide +kernel) ?_
          exact xe_i hx hb hrt hlocks hP hS ((by unfold am_join; simp only [Int.toNat_natCast]; simp only [sp_get_s hS_t2]; rw [sp_if_t (by omega)]; exact ⟨rfl, hC, xO.rf⟩)) dX4_join_39
    · rcases Classical.em (0 ≤ z3 ∧ z3 < 8) with hx_z3 | hx_z3
      · obtain ⟨t3, rfl⟩ : ∃ q : Nat, z3 = (q : Int) := ⟨z3.toNat, by omega⟩
        have h_t3 : t3 < 8 := by omega
        have hT_t3 : XT cA ad en (21 + 3 * t3) (S.2.1 t3) := hC.rt h_t3
        obtain ⟨zm_t3, tm_t3, tf_t3, hO_t3, hr_t3⟩ := hT_t3.any
        refine lv_aload_n hx hb dX4_join_0 rfl (lv_at hl 0 rfl) ?_
        refine lv_iload_n hx hb dX4_join_1 rfl (lv_at hl 1 rfl) ?_
        refine xv_q (i := 0) (As := [.int (xI z1)]) (rest := []) ⟨hx, hb, hml, hown, hts⟩ hl.1 (c_X4_textOf_out l D cA n ad en (by omega) hC z1 (by omega) (by omega)) k_X4_textOf u_ml_RX4_97 hK hN hP (by omega) hC.1 rfl rfl rfl rfl (Nat.le_of_ble_eq_true rfl) ⟨Nat.le_of_ble_eq_true rfl, Nat.le_of_ble_eq_true rfl⟩ ⟨Nat.le_of_ble_eq_true rfl, Nat.le_of_ble_eq_true rfl⟩ dX4_join_2 ?_
        refine lv_astoreN (lv' := [(4, .null), (0, .ref (ad 0)), (1, .int (xI z1)), (2, .int (xI z2)), (3, .int (xI (t3 : Int)))]) hx hb dX4_join_5 hl (by decide) rfl (fun ls hl => ?_)
        refine lv_aload_n hx hb dX4_join_7 rfl (lv_at hl 1 rfl) ?_
        refine lv_iload_n hx hb dX4_join_8 rfl (lv_at hl 3 rfl) ?_
        refine xv_q (i := 0) (As := [.int (xI z2)]) (rest := []) ⟨hx, hb, hml, hown, hts⟩ hl.1 (c_X4_textOf_out l D cA n ad en (by omega) hC z2 (by omega) (by omega)) k_X4_textOf u_ml_RX4_97 hK hN hP (by omega) hC.1 rfl rfl rfl rfl (Nat.le_of_ble_eq_true rfl) ⟨Nat.le_of_ble_eq_true rfl, Nat.le_of_ble_eq_true rfl⟩ ⟨Nat.le_of_ble_eq_true rfl, Nat.le_of_ble_eq_true rfl⟩ dX4_join_9 ?_
        refine lv_astoreN (lv' := [(5, .null), (4, .null), (0, .ref (ad 0)), (1, .int (xI z1)), (2, .int (xI z2)), (3, .int (xI (t3 : Int)))]) hx hb dX4_join_12 hl (by decide) rfl (fun ls hl => ?_)
        refine lv_aload_n hx hb dX4_join_14 rfl (lv_at hl 2 rfl) ?_
        refine lv_iload_n hx hb dX4_join_15 rfl (lv_at hl 5 rfl) ?_
        refine xv_q (i := 0) (As := [.int (xI (t3 : Int))]) (rest := []) ⟨hx, hb, hml, hown, hts⟩ hl.1 (c_X4_textOf_in l D cA n ad en (by omega) hC t3 (by omega)) k_X4_textOf u_ml_RX4_97 hK hN hP (by omega) hC.1 rfl rfl rfl rfl (Nat.le_of_ble_eq_true rfl) ⟨Nat.le_of_ble_eq_true rfl, Nat.le_of_ble_eq_true rfl⟩ ⟨Nat.le_of_ble_eq_true rfl, Nat.le_of_ble_eq_true rfl⟩ dX4_join_16 ?_
        refine lv_astore (lv' := [(6, .ref (ad (21 + 3 * t3))), (5, .null), (4, .null), (0, .ref (ad 0)), (1, .int (xI z1)), (2, .int (xI z2)), (3, .int (xI (t3 : Int)))]) hx hb dX4_join_19 hl (by decide) rfl (fun ls hl => ?_)
        refine lv_aloadN hx hb dX4_join_21 (lv_at hl 2 rfl) ?_
        refine lv_ifnullN (tgt := 36) hx hb dX4_join_23 (by decide) ?_
        refine x_sipush hx hb dX4_join_36 (by decide +kernel) ?_
        exact xe_i hx hb hrt hlocks hP hS ((by unfold am_join; simp only [Int.toNat_natCast]; rw [sp_if_t (by omega)]; exact ⟨rfl, hC, xO.rf⟩)) dX4_join_39
      · refine lv_aload_n hx hb dX4_join_0 rfl (lv_at hl 0 rfl) ?_
        refine lv_iload_n hx hb dX4_join_1 rfl (lv_at hl 1 rfl) ?_
        refine xv_q (i := 0) (As := [.int (xI z1)]) (rest := []) ⟨hx, hb, hml, hown, hts⟩ hl.1 (c_X4_textOf_out l D cA n ad en (by omega) hC z1 (by omega) (by omega)) k_X4_textOf u_ml_RX4_97 hK hN hP (by omega) hC.1 rfl rfl rfl rfl (Nat.le_of_ble_eq_true rfl) ⟨Nat.le_of_ble_eq_true rfl, Nat.le_of_ble_eq_true rfl⟩ ⟨Nat.le_of_ble_eq_true rfl, Nat.le_of_ble_eq_true rfl⟩ dX4_join_2 ?_
        refine lv_astoreN (lv' := [(4, .null), (0, .ref (ad 0)), (1, .int (xI z1)), (2, .int (xI z2)), (3, .int (xI z3))]) hx hb dX4_join_5 hl (by decide) rfl (fun ls hl => ?_)
        refine lv_aload_n hx hb dX4_join_7 rfl (lv_at hl 1 rfl) ?_
        refine lv_iload_n hx hb dX4_join_8 rfl (lv_at hl 3 rfl) ?_
        refine xv_q (i := 0) (As := [.int (xI z2)]) (rest := []) ⟨hx, hb, hml, hown, hts⟩ hl.1 (c_X4_textOf_out l D cA n ad en (by omega) hC z2 (by omega) (by omega)) k_X4_textOf u_ml_RX4_97 hK hN hP (by omega) hC.1 rfl rfl rfl rfl (Nat.le_of_ble_eq_true rfl) ⟨Nat.le_of_ble_eq_true rfl, Nat.le_of_ble_eq_true rfl⟩ ⟨Nat.le_of_ble_eq_true rfl, Nat.le_of_ble_eq_true rfl⟩ dX4_join_9 ?_
        refine lv_astoreN (lv' := [(5, .null), (4, .null), (0, .ref (ad 0)), (1, .int (xI z1)), (2, .int (xI z2)), (3, .int (xI z3))]) hx hb dX4_join_12 hl (by decide) rfl (fun ls hl => ?_)
        refine lv_aload_n hx hb dX4_join_14 rfl (lv_at hl 2 rfl) ?_
        refine lv_iload_n hx hb dX4_join_15 rfl (lv_at hl 5 rfl) ?_
        refine xv_q (i := 0) (As := [.int (xI z3)]) (rest := []) ⟨hx, hb, hml, hown, hts⟩ hl.1 (c_X4_textOf_out l D cA n ad en (by omega) hC z3 (by omega) (by omega)) k_X4_textOf u_ml_RX4_97 hK hN hP (by omega) hC.1 rfl rfl rfl rfl (Nat.le_of_ble_eq_true rfl) ⟨Nat.le_of_ble_eq_true rfl, Nat.le_of_ble_eq_true rfl⟩ ⟨Nat.le_of_ble_eq_true rfl, Nat.le_of_ble_eq_true rfl⟩ dX4_join_16 ?_
        refine lv_astoreN (lv' := [(6, .null), (5, .null), (4, .null), (0, .ref (ad 0)), (1, .int (xI z1)), (2, .int (xI z2)), (3, .int (xI z3))]) hx hb dX4_join_19 hl (by decide) rfl (fun ls hl => ?_)
        refine lv_aloadN hx hb dX4_join_21 (lv_at hl 2 rfl) ?_
        refine lv_ifnullN (tgt := 36) hx hb dX4_join_23 (by decide) ?_
        refine x_sipush hx hb dX4_join_36 (by decide +kernel) ?_
        exact xe_i hx hb hrt hlocks hP hS ((by unfold am_join; rw [sp_if_t (by omega)]; exact ⟨rfl, hC, xO.rf⟩)) dX4_join_39

theorem rep_eq {w Z m : Nat} (h1 : Z * m ≤ 200) (h2 : (w : Int) = min (Z : Int) 200) : w * m = Z * m := by
  by_cases q : Z ≤ 200
  · rw [show w = Z by omega]
  · have h3 : m = 0 := by
      rcases Nat.eq_zero_or_pos m with h | h
      · exact h
      · have := Nat.le_mul_of_pos_right Z h
        omega
    rw [h3]
    rfl
theorem rep_go {F f : Nat → Int} {w m t : Nat} (hF : ∀ t : Nat, t < w * m → F t = f (t % m)) (ht : t < w * m + m) : sp_ed F (w * m) (w * m) f 0 m t = f (t % m) := by
  simp only [sp_ed]
  by_cases q1 : t < w * m
  · rw [if_pos q1]; exact hF t q1
  · rw [if_neg q1, if_pos ht]
    obtain ⟨r, rfl⟩ : ∃ r : Nat, t = r + w * m := ⟨t - w * m, by omega⟩
    rw [Nat.add_mul_mod_self_right, Nat.mod_eq_of_lt (by omega)]
    exact congrArg f (by omega)

set_option maxRecDepth 20000 in
theorem c_X4_repeat (l : Launch) (D : va_G) (cA : Nat → ClassId) (n : Nat) (ad : Nat → Nat) (en : Nat → va_E) (sz : Nat) (hn : 53 ≤ n) {S : xSt} (hC : CW cA ad en S) (z1 : Int) (hz1 : -2147483648 ≤ z1 ∧ z1 ≤ 2147483647) (z2 : Int) (hz2 : -2147483648 ≤ z2 ∧ z2 ≤ 2147483647) (z3 : Int) (hz3 : -2147483648 ≤ z3 ∧ z3 ≤ 2147483647) : Met l yX4_repeat (Cond.code yX4_repeat cX4_repeat 9 (some .int) :: xU) (xrm 3 75) (va_Pc [.ref (ad 0), .int (xI z1), .int (xI z2), .int (xI z3)] (xM D cA n ad en sz)) (va_Qi (fun r u => r = xI (am_repeat S z1 z2 z3).1 ∧ CW cA ad u (am_repeat S z1 z2 z3).2 ∧ xO 0 53 en u) (xE D n ad) (xA n ad sz)) 0 0 (xA n ad sz) := by
  refine xmet (by decide) (Nat.le_of_ble_eq_true rfl) (fun p e s mm args below meth c ls hx hb hrt hml hown hts hlocks hname hB hl => ?_)
  obtain ⟨⟨hP, hK, hN⟩, hsz, hDt⟩ := hB
  have hD : xD (xA n ad sz) n ad := xD_self hDt sz
  have hA : ∀ q : Nat, s.heap.size ≤ q → xA n ad sz q := fun q h => Or.inr (by rw [← hsz]; exact h)
  have hS : va_S (xA n ad sz) s.heap s.heap [] := va_S.rf
  have hown : s.vm.findClass RX4 = some mm.cls := hown
  have hl : lv_has ls 9 [(0, .ref (ad 0)), (1, .int (xI z1)), (2, .int (xI z2)), (3, .int (xI z3))] := hl
  rcases Classical.em (0 ≤ z1 ∧ z1 < 8) with hx_z1 | hx_z1
  · obtain ⟨t1, rfl⟩ : ∃ q : Nat, z1 = (q : Int) := ⟨z1.toNat, by omega⟩
    have h_t1 : t1 < 8 := by omega
    rcases hS_t1 : S.2.1 t1 with _ | r_t1
    · rcases Classical.em (0 ≤ z3 ∧ z3 < 8) with hx_z3 | hx_z3
      · obtain ⟨t3, rfl⟩ : ∃ q : Nat, z3 = (q : Int) := ⟨z3.toNat, by omega⟩
        have h_t3 : t3 < 8 := by omega
        have hT_t1 : XT cA ad en (21 + 3 * t1) none := by have q : XT cA ad en (21 + 3 * t1) (S.2.1 t1) := hC.rt h_t1; rw [hS_t1] at q; exact q
        have hT_t3 : XT cA ad en (21 + 3 * t3) (S.2.1 t3) := hC.rt h_t3
        obtain ⟨zm_t3, tm_t3, tf_t3, hO_t3, hr_t3⟩ := hT_t3.any
        refine lv_aload_n hx hb dX4_repeat_0 rfl (lv_at hl 0 rfl) ?_
        refine lv_iload_n hx hb dX4_repeat_1 rfl (lv_at hl 1 rfl) ?_
        refine xv_q (i := 0) (As := [.int (xI (t1 : Int))]) (rest := []) ⟨hx, hb, hml, hown, hts⟩ hl.1 (c_X4_textOf_in l D cA n ad en (by omega) hC t1 (by omega)) k_X4_textOf u_ml_RX4_97 hK hN hP (by omega) hC.1 rfl rfl rfl rfl (Nat.le_of_ble_eq_true rfl) ⟨Nat.le_of_ble_eq_true rfl, Nat.le_of_ble_eq_true rfl⟩ ⟨Nat.le_of_ble_eq_true rfl, Nat.le_of_ble_eq_true rfl⟩ dX4_repeat_2 ?_
        refine lv_astore (lv' := [(4, .ref (ad (21 + 3 * t1))), (0, .ref (ad 0)), (1, .int (xI (t1 : Int))), (2, .int (xI z2)), (3, .int (xI (t3 : Int)))]) hx hb dX4_repeat_5 hl (by decide) rfl (fun ls hl => ?_)
        refine lv_aload_n hx hb dX4_repeat_7 rfl (lv_at hl 1 rfl) ?_
        refine lv_iload_n hx hb dX4_repeat_8 rfl (lv_at hl 4 rfl) ?_
        refine xv_q (i := 0) (As := [.int (xI (t3 : Int))]) (rest := []) ⟨hx, hb, hml, hown, hts⟩ hl.1 (c_X4_textOf_in l D cA n ad en (by omega) hC t3 (by omega)) k_X4_textOf u_ml_RX4_97 hK hN hP (by omega) hC.1 rfl rfl rfl rfl (Nat.le_of_ble_eq_true rfl) ⟨Nat.le_of_ble_eq_true rfl, Nat.le_of_ble_eq_true rfl⟩ ⟨Nat.le_of_ble_eq_true rfl, Nat.le_of_ble_eq_true rfl⟩ dX4_repeat_9 ?_
        refine lv_astore (lv' := [(5, .ref (ad (21 + 3 * t3))), (4, .ref (ad (21 + 3 * t1))), (0, .ref (ad 0)), (1, .int (xI (t1 : Int))), (2, .int (xI z2)), (3, .int (xI (t3 : Int)))]) hx hb dX4_repeat_12 hl (by decide) rfl (fun ls hl => ?_)
        refine lv_aload hx hb dX4_repeat_14 (lv_at hl 1 rfl) ?_
        refine lv_ifnull hx hb dX4_repeat_16 ?_
        refine lv_aload hx hb dX4_repeat_19 (lv_at hl 0 rfl) ?_
        refine lv_ifnonnull (tgt := 28) hx hb dX4_repeat_21 (by decide) ?_
        refine lv_aload hx hb dX4_repeat_28 (lv_at hl 1 rfl) ?_
        refine x_getn (T := TX3) (N := 2) hx hb hts uX3 hown hN hK hP (i := 21 + 3 * t1) (by omega) hT_t1.1 rfl 1 (by decide) (by simp only [xNest, List.mem_cons]; exact Or.inr (Or.inr (Or.inr (Or.inr (Or.inr (Or.inr (Or.inl rfl))))))) rfl dX4_repeat_30 ?_
        refine x_if_eq (tgt := 40) hx hb dX4_repeat_33 (by decide) (by omega) (fun c_33 => absurd c_33 (by omega)) (fun c_33 => ?_)
        refine x_sipush hx hb dX4_repeat_36 (by decide +kernel) ?_
        exact xe_i hx hb hrt hlocks hP hS ((by unfold am_repeat; simp only [Int.toNat_natCast]; rw [sp_if_f (by omega), sp_if_t (by simp [hS_t1])]; exact ⟨rfl, hC, xO.rf⟩)) dX4_repeat_39
      · have hT_t1 : XT cA ad en (21 + 3 * t1) none := by have q : XT cA ad en (21 + 3 * t1) (S.2.1 t1) := hC.rt h_t1; rw [hS_t1] at q; exact q
        refine lv_aload_n hx hb dX4_repeat_0 rfl (lv_at hl 0 rfl) ?_
        refine lv_iload_n hx hb dX4_repeat_1 rfl (lv_at hl 1 rfl) ?_
        refine xv_q (i := 0) (As := [.int (xI (t1 : Int))]) (rest := []) ⟨hx, hb, hml, hown, hts⟩ hl.1 (c_X4_textOf_in l D cA n ad en (by omega) hC t1 (by omega)) k_X4_textOf u_ml_RX4_97 hK hN hP (by omega) hC.1 rfl rfl rfl rfl (Nat.le_of_ble_eq_true rfl) ⟨Nat.le_of_ble_eq_true rfl, Nat.le_of_ble_eq_true rfl⟩ ⟨Nat.le_of_ble_eq_true rfl, Nat.le_of_ble_eq_true rfl⟩ dX4_repeat_2 ?_
        refine lv_astore (lv' := [(4, .ref (ad (21 + 3 * t1))), (0, .ref (ad 0)), (1, .int (xI (t1 : Int))), (2, .int (xI z2)), (3, .int (xI z3))]) hx hb dX4_repeat_5 hl (by decide) rfl (fun ls hl => ?_)
        refine lv_aload_n hx hb dX4_repeat_7 rfl (lv_at hl 1 rfl) ?_
        refine lv_iload_n hx hb dX4_repeat_8 rfl (lv_at hl 4 rfl) ?_
        refine xv_q (i := 0) (As := [.int (xI z3)]) (rest := []) ⟨hx, hb, hml, hown, hts⟩ hl.1 (c_X4_textOf_out l D cA n ad en (by omega) hC z3 (by omega) (by omega)) k_X4_textOf u_ml_RX4_97 hK hN hP (by omega) hC.1 rfl rfl rfl rfl (Nat.le_of_ble_eq_true rfl) ⟨Nat.le_of_ble_eq_true rfl, Nat.le_of_ble_eq_true rfl⟩ ⟨Nat.le_of_ble_eq_true rfl, Nat.le_of_ble_eq_true rfl⟩ dX4_repeat_9 ?_
        refine lv_astoreN (lv' := [(5, .null), (4, .ref (ad (21 + 3 * t1))), (0, .ref (ad 0)), (1, .int (xI (t1 : Int))), (2, .int (xI z2)), (3, .int (xI z3))]) hx hb dX4_repeat_12 hl (by decide) rfl (fun ls hl => ?_)
        refine lv_aload hx hb dX4_repeat_14 (lv_at hl 1 rfl) ?_
        refine lv_ifnull hx hb dX4_repeat_16 ?_
        refine lv_aloadN hx hb dX4_repeat_19 (lv_at hl 0 rfl) ?_
        refine lv_ifnonnullN hx hb dX4_repeat_21 ?_
        refine x_sipush hx hb dX4_repeat_24 (by decide +kernel) ?_
        exact xe_i hx hb hrt hlocks hP hS ((by unfold am_repeat; simp only [Int.toNat_natCast]; rw [sp_if_t (by omega)]; exact ⟨rfl, hC, xO.rf⟩)) dX4_repeat_27
    · rcases Classical.em (0 ≤ z3 ∧ z3 < 8) with hx_z3 | hx_z3
      · obtain ⟨t3, rfl⟩ : ∃ q : Nat, z3 = (q : Int) := ⟨z3.toNat, by omega⟩
        have h_t3 : t3 < 8 := by omega
        have hT_t1 : XT cA ad en (21 + 3 * t1) (some r_t1) := by have q : XT cA ad en (21 + 3 * t1) (S.2.1 t1) := hC.rt h_t1; rw [hS_t1] at q; exact q
        have hr_t1 := hT_t1.2
        have hm_t1 := hr_t1.2.2.1
        have hT_t3 : XT cA ad en (21 + 3 * t3) (S.2.1 t3) := hC.rt h_t3
        obtain ⟨zm_t3, tm_t3, tf_t3, hO_t3, hr_t3⟩ := hT_t3.any
        refine lv_aload_n hx hb dX4_repeat_0 rfl (lv_at hl 0 rfl) ?_
        refine lv_iload_n hx hb dX4_repeat_1 rfl (lv_at hl 1 rfl) ?_
        refine xv_q (i := 0) (As := [.int (xI (t1 : Int))]) (rest := []) ⟨hx, hb, hml, hown, hts⟩ hl.1 (c_X4_textOf_in l D cA n ad en (by omega) hC t1 (by omega)) k_X4_textOf u_ml_RX4_97 hK hN hP (by omega) hC.1 rfl rfl rfl rfl (Nat.le_of_ble_eq_true rfl) ⟨Nat.le_of_ble_eq_true rfl, Nat.le_of_ble_eq_true rfl⟩ ⟨Nat.le_of_ble_eq_true rfl, Nat.le_of_ble_eq_true rfl⟩ dX4_repeat_2 ?_
        refine lv_astore (lv' := [(4, .ref (ad (21 + 3 * t1))), (0, .ref (ad 0)), (1, .int (xI (t1 : Int))), (2, .int (xI z2)), (3, .int (xI (t3 : Int)))]) hx hb dX4_repeat_5 hl (by decide) rfl (fun ls hl => ?_)
        refine lv_aload_n hx hb dX4_repeat_7 rfl (lv_at hl 1 rfl) ?_
        refine lv_iload_n hx hb dX4_repeat_8 rfl (lv_at hl 4 rfl) ?_
        refine xv_q (i := 0) (As := [.int (xI (t3 : Int))]) (rest := []) ⟨hx, hb, hml, hown, hts⟩ hl.1 (c_X4_textOf_in l D cA n ad en (by omega) hC t3 (by omega)) k_X4_textOf u_ml_RX4_97 hK hN hP (by omega) hC.1 rfl rfl rfl rfl (Nat.le_of_ble_eq_true rfl) ⟨Nat.le_of_ble_eq_true rfl, Nat.le_of_ble_eq_true rfl⟩ ⟨Nat.le_of_ble_eq_true rfl, Nat.le_of_ble_eq_true rfl⟩ dX4_repeat_9 ?_
        refine lv_astore (lv' := [(5, .ref (ad (21 + 3 * t3))), (4, .ref (ad (21 + 3 * t1))), (0, .ref (ad 0)), (1, .int (xI (t1 : Int))), (2, .int (xI z2)), (3, .int (xI (t3 : Int)))]) hx hb dX4_repeat_12 hl (by decide) rfl (fun ls hl => ?_)
        refine lv_aload hx hb dX4_repeat_14 (lv_at hl 1 rfl) ?_
        refine lv_ifnull hx hb dX4_repeat_16 ?_
        refine lv_aload hx hb dX4_repeat_19 (lv_at hl 0 rfl) ?_
        refine lv_ifnonnull (tgt := 28) hx hb dX4_repeat_21 (by decide) ?_
        refine lv_aload hx hb dX4_repeat_28 (lv_at hl 1 rfl) ?_
        refine x_getn (T := TX3) (N := 2) hx hb hts uX3 hown hN hK hP (i := 21 + 3 * t1) (by omega) hT_t1.1 rfl 1 (by decide) (by simp only [xNest, List.mem_cons]; exact Or.inr (Or.inr (Or.inr (Or.inr (Or.inr (Or.inr (Or.inl rfl))))))) rfl dX4_repeat_30 ?_
        refine x_if_eq (tgt := 40) hx hb dX4_repeat_33 (by decide) (by omega) (fun c_33 => ?_) (fun c_33 => absurd c_33 (by omega))
        refine lv_iload_n hx hb dX4_repeat_40 rfl (lv_at hl 4 rfl) ?_
        refine x_if_ge (tgt := 48) hx hb dX4_repeat_41 (by decide) (by omega) (fun c_41 => ?_) (fun c_41 => ?_)
        · refine lv_iload_n hx hb dX4_repeat_48 rfl (lv_at hl 4 rfl) ?_
          refine x_i2l hx hb dX4_repeat_49 (by omega) ?_
          refine lv_aload hx hb dX4_repeat_50 (lv_at hl 1 rfl) ?_
          refine x_getn (T := TX3) (N := 2) hx hb hts uX3 hown hN hK hP (i := 21 + 3 * t1) (by omega) hT_t1.1 rfl 0 (by decide) (by simp only [xNest, List.mem_cons]; exact Or.inr (Or.inr (Or.inr (Or.inr (Or.inr (Or.inl rfl)))))) rfl dX4_repeat_52 ?_
          refine x_getn (T := TX2) (N := 2) hx hb hts uX2 hown hN hK hP (i := 21 + 3 * t1 + 1) (by omega) hr_t1.1 rfl 1 (by decide) (by simp only [xNest, List.mem_cons]; exact Or.inr (Or.inl rfl)) rfl dX4_repeat_55 ?_
          refine x_i2l hx hb dX4_repeat_58 (by omega) ?_
          refine x_lmul hx hb dX4_repeat_59 ?_
          refine x_ldc2 hx hb hown (hts _ u_ko_RX4_167) (k := 200) (by decide +kernel) dX4_repeat_60 ?_
          refine x_lcmp hx hb dX4_repeat_63 (by have h1 := Int.mul_le_mul_of_nonneg_left (show (r_t1.1 : Int) ≤ 200 by omega) (show 0 ≤ z2 by omega); have h2 := Int.mul_nonneg (show 0 ≤ z2 by omega) (show (0 : Int) ≤ (r_t1.1 : Int) by omega); omega) ?_
          refine x_if_le (tgt := 71) hx hb dX4_repeat_64 (by decide) (xcmp_r _ _) (fun c_64 => ?_) (fun c_64 => ?_)
          · have c_64 := xcmp_le.mp c_64
            obtain ⟨Z, rfl⟩ : ∃ q : Nat, z2 = (q : Int) := ⟨z2.toNat, by omega⟩
            have hZ1 : Z * r_t1.1 ≤ 200 := by have h9 : ((Z * r_t1.1 : Nat) : Int) = (Z : Int) * (r_t1.1 : Int) := Int.natCast_mul Z r_t1.1; omega
            have hwb : ∀ w : Nat, (w : Int) ≤ min (Z : Int) 200 → w * r_t1.1 ≤ 200 := fun w hw => Nat.le_trans (Nat.mul_le_mul_right _ (show w ≤ Z by omega)) hZ1
            refine lv_aload_n hx hb dX4_repeat_71 rfl (lv_at hl 2 rfl) ?_
            obtain ⟨m0, f0, hr0⟩ := hC.rs
            refine xm_q (i := 0) (As := []) (rest := []) ⟨hx, hb, hml, hown, hts⟩ hl.1 (c_X4_nothing l D cA n ad en _ (by omega) hC hr0) k_X4_nothing u_ml_RX4_86 hK hN hP (by omega) hC.1 rfl rfl rfl rfl (Nat.le_of_ble_eq_true rfl) ⟨Nat.le_of_ble_eq_true rfl, Nat.le_of_ble_eq_true rfl⟩ ⟨Nat.le_of_ble_eq_true rfl, Nat.le_of_ble_eq_true rfl⟩ dX4_repeat_72 hD hS hA (fun r1 en1 H locs hp1 hP hS => ?_)
            obtain ⟨hr9, hrs, hos⟩ := hp1
            subst hr9
            have hC := hC.spare hos hrs
            have ho : xO 0 53 en en1 := hos.mo (by omega) (by omega)
            have hT_t1 : XT cA ad en1 (21 + 3 * t1) (some r_t1) := by have q : XT cA ad en1 (21 + 3 * t1) (S.2.1 t1) := hC.rt h_t1; rw [hS_t1] at q; exact q
            have hr_t1 := hT_t1.2
            have hm_t1 := hr_t1.2.2.1
            have hT_t3 : XT cA ad en1 (21 + 3 * t3) (S.2.1 t3) := hC.rt h_t3
            obtain ⟨zm_t3, tm_t3, tf_t3, hO_t3, hr_t3⟩ := hT_t3.any
            refine lv_astore (lv' := [(6, .ref (ad 11)), (5, .ref (ad (21 + 3 * t3))), (4, .ref (ad (21 + 3 * t1))), (0, .ref (ad 0)), (1, .int (xI (t1 : Int))), (2, .int (xI (Z : Int))), (3, .int (xI (t3 : Int)))]) hx hb dX4_repeat_75 hl (by decide) rfl (fun ls hl => ?_)
            refine lv_iload_n hx hb dX4_repeat_77 rfl (lv_at hl 5 rfl) ?_
            refine x_sipush hx hb dX4_repeat_78 (by decide +kernel) ?_
            refine x_min hx hb (hml.trans hl.1.symm) hts hown u_ml_RX4_169 (Nat.le_of_ble_eq_true rfl) (Nat.le_of_ble_eq_true rfl) (Nat.le_of_ble_eq_true rfl) (Nat.le_of_ble_eq_true rfl) (r := (min (Z : Int) 200)) (by omega) (by omega) dX4_repeat_81 ?_
            refine lv_istore (lv' := [(7, .int (xI (min (Z : Int) 200))), (6, .ref (ad 11)), (5, .ref (ad (21 + 3 * t3))), (4, .ref (ad (21 + 3 * t1))), (0, .ref (ad 0)), (1, .int (xI (t1 : Int))), (2, .int (xI (Z : Int))), (3, .int (xI (t3 : Int)))]) hx hb dX4_repeat_84 hl (by decide) rfl (fun ls hl => ?_)
            refine x_iconst hx hb dX4_repeat_86 ?_
            refine lv_istore (lv' := [(8, .int (xI 0)), (7, .int (xI (min (Z : Int) 200))), (6, .ref (ad 11)), (5, .ref (ad (21 + 3 * t3))), (4, .ref (ad (21 + 3 * t1))), (0, .ref (ad 0)), (1, .int (xI (t1 : Int))), (2, .int (xI (Z : Int))), (3, .int (xI (t3 : Int)))]) hx hb dX4_repeat_87 hl (by decide) rfl (fun ls hl => ?_)
            have L89 : ∀ (nn : Nat) (w : Nat) (F : Nat → Int) (ew89 : Nat → va_E) (H : Heap) (locs : List Loc), ((w : Int) ≤ min (Z : Int) 200) → (∀ t : Nat, t < w * r_t1.1 → F t = r_t1.2 (t % r_t1.1)) → ((min (Z : Int) 200 - w).toNat) < nn → (CW cA ad ew89 S) → (XR cA ad ew89 11 (w * r_t1.1) F) → (xO 0 53 en ew89) → va_P D vwCl (xw n ad ew89) H → va_S (xA n ad sz) s.heap H locs → ∀ ls : Array Slot, lv_has ls 9 [(4, .ref (ad (21 + 3 * t1))), (5, .ref (ad (21 + 3 * t3))), (6, .ref (ad 11)), (7, .int (xI (min (Z : Int) 200))), (8, .int (xI (w : Int)))] → W p l e (xrm 3 75) s mm args below meth c H locs 0 0 (MQ below (va_Qi (fun r u => r = xI (am_repeat S (t1 : Int) (Z : Int) (t3 : Int)).1 ∧ CW cA ad u (am_repeat S (t1 : Int) (Z : Int) (t3 : Int)).2 ∧ xO 0 53 en u) (xE D n ad) (xA n ad sz)) args s 0 0 (xA n ad sz)) (F0 mm 89 ls []) := by
              intro nn
              induction nn with
              | zero =>
                intro w F ew89 H locs hw hF hmm hC hrs ho hP hS ls hl
                exact absurd hmm (Nat.not_lt_zero _)
              | succ nn ih =>
                intro w F ew89 H locs hw hF hmm hC hrs ho hP hS ls hl
                have hmw := hrs.2.2.1
                have hT_t1 : XT cA ad ew89 (21 + 3 * t1) (some r_t1) := by have q : XT cA ad ew89 (21 + 3 * t1) (S.2.1 t1) := hC.rt h_t1; rw [hS_t1] at q; exact q
                have hr_t1 := hT_t1.2
                have hm_t1 := hr_t1.2.2.1
                have hT_t3 : XT cA ad ew89 (21 + 3 * t3) (S.2.1 t3) := hC.rt h_t3
                obtain ⟨zm_t3, tm_t3, tf_t3, hO_t3, hr_t3⟩ := hT_t3.any
                refine lv_iload hx hb dX4_repeat_89 (lv_at hl 4 rfl) ?_
                refine lv_iload hx hb dX4_repeat_91 (lv_at hl 3 rfl) ?_
                refine x_icmp_ge (tgt := 118) hx hb dX4_repeat_93 (by decide) (by omega) (fun c_93 => ?_) (fun c_93 => ?_)
                · refine lv_aload hx hb dX4_repeat_118 (lv_at hl 1 rfl) ?_
                  refine lv_aload hx hb dX4_repeat_120 (lv_at hl 2 rfl) ?_
                  refine x_iconst hx hb dX4_repeat_122 ?_
                  refine lv_aload hx hb dX4_repeat_123 (lv_at hl 2 rfl) ?_
                  refine x_getn (T := TX2) (N := 2) hx hb hts uX2 hown hN hK hP (i := 11) (by omega) hrs.1 rfl 1 (by decide) (by simp only [xNest, List.mem_cons]; exact Or.inr (Or.inl rfl)) rfl dX4_repeat_125 ?_
                  refine xm_i (i := 21 + 3 * t3) (As := [.ref (ad 11), .int (xI 0), .int (xI ((w * r_t1.1 : Nat) : Int))]) (rest := []) ⟨hx, hb, hml, hown, hts⟩ hl.1 (c_X3_become l D cA n ad ew89 _ (by omega) hT_t3 (by omega) hrs (by omega) 0 ((w * r_t1.1 : Nat) : Int) (by omega) (by omega)) k_X3_become u_ml_RX4_129 hK hN hP (by omega) hO_t3 rfl rfl rfl rfl (Nat.le_of_ble_eq_true rfl) ⟨Nat.le_of_ble_eq_true rfl, Nat.le_of_ble_eq_true rfl⟩ ⟨Nat.le_of_ble_eq_true rfl, Nat.le_of_ble_eq_true rfl⟩ dX4_repeat_128 hD hS hA (fun r2 en2 H locs hp2 hP hS => ?_)
                  rcases hp2 with ⟨hsp, hrv, hx1, hoc⟩ | ⟨hsp, hrv, hu⟩
                  · subst hrv
                    have hC9 := hC.text h_t3 (hoc.mo (by omega) (by omega)) hx1
                    have ho : xO 0 53 en en2 := ho.tr (hoc.mo (by omega) (by omega))
                    exact xe_i hx hb hrt hlocks hP hS ((by have hwz : w * r_t1.1 = Z * r_t1.1 := rep_eq hZ1 (by omega); have hwi : ((Z * r_t1.1 : Nat) : Int) = (Z : Int) * (r_t1.1 : Int) := Int.natCast_mul Z r_t1.1; unfold am_repeat; simp only [Int.toNat_natCast]; simp only [sp_get_s hS_t1]; rw [sp_if_f (by omega), sp_if_f (by simp [hS_t1]), sp_if_f (by omega), sp_if_f (by omega)]; exact ⟨congrArg xI (by omega), CW_eqt hC9 (by omega) (fun t ht => by show F (Int.toNat 0 + t) = _; rw [show Int.toNat 0 + t = t from Nat.zero_add t]; exact hF t (by omega)), ho⟩)) dX4_repeat_131
                  · exact absurd (by omega) hsp
                · refine lv_aload hx hb dX4_repeat_96 (lv_at hl 2 rfl) ?_
                  refine lv_aload hx hb dX4_repeat_98 (lv_at hl 2 rfl) ?_
                  refine x_getn (T := TX2) (N := 2) hx hb hts uX2 hown hN hK hP (i := 11) (by omega) hrs.1 rfl 1 (by decide) (by simp only [xNest, List.mem_cons]; exact Or.inr (Or.inl rfl)) rfl dX4_repeat_100 ?_
                  refine lv_aload hx hb dX4_repeat_103 (lv_at hl 0 rfl) ?_
                  refine x_getn (T := TX3) (N := 2) hx hb hts uX3 hown hN hK hP (i := 21 + 3 * t1) (by omega) hT_t1.1 rfl 0 (by decide) (by simp only [xNest, List.mem_cons]; exact Or.inr (Or.inr (Or.inr (Or.inr (Or.inr (Or.inl rfl)))))) rfl dX4_repeat_105 ?_
                  have hw1 : (w + 1) * r_t1.1 = w * r_t1.1 + r_t1.1 := Nat.succ_mul w r_t1.1
                  have hw2 : (w + 1) * r_t1.1 ≤ 200 := hwb (w + 1) (by omega)
                  refine xm_i (i := 11) (As := [.int (xI ((w * r_t1.1 : Nat) : Int)), .ref (ad (21 + 3 * t1 + 1))]) (rest := []) ⟨hx, hb, hml, hown, hts⟩ hl.1 (c_X2_joinIn l D cA n ad ew89 _ (by omega) hrs (by omega) hr_t1 (by omega) ((w * r_t1.1 : Nat) : Int) (by omega)) k_X2_joinIn u_ml_RX4_67 hK hN hP (by omega) hrs.1 rfl rfl rfl rfl (Nat.le_of_ble_eq_true rfl) ⟨Nat.le_of_ble_eq_true rfl, Nat.le_of_ble_eq_true rfl⟩ ⟨Nat.le_of_ble_eq_true rfl, Nat.le_of_ble_eq_true rfl⟩ dX4_repeat_108 hD hS hA (fun r3 en3 H locs hp3 hP hS => ?_)
                  rcases hp3 with hbad | hbad | ⟨-, -, hrv, hx1, hos⟩
                  · exact absurd ⟨⟨by omega, by omega, by omega⟩, by omega, by omega, by omega⟩ hbad.1
                  · exact absurd hbad.2.1 (by omega)
                  · subst hrv
                    have hrs := hx1.to (m' := (w + 1) * r_t1.1) (f' := (fun q => r_t1.2 (q % r_t1.1))) (by omega) (fun t ht => by rw [show Int.toNat ((r_t1.1 : Int) - 0) = r_t1.1 by omega]; exact rep_go hF (by omega))
                    have hC := hC.spare hos hrs
                    have ho : xO 0 53 en en3 := ho.tr (hos.mo (by omega) (by omega))
                    refine lv_pop hx hb dX4_repeat_111 rfl ?_
                    refine x_iinc (lv' := [(8, .int (xI ((w : Int) + 1))), (4, .ref (ad (21 + 3 * t1))), (5, .ref (ad (21 + 3 * t3))), (6, .ref (ad 11)), (7, .int (xI (min (Z : Int) 200)))]) (k := 4) hx hb dX4_repeat_112 hl rfl (by decide) rfl (fun ls hl => ?_)
                    refine lv_goto (tgt := 89) hx hb dX4_repeat_115 (by decide) ?_
                    exact ih (w + 1) (fun q => r_t1.2 (q % r_t1.1)) en3 _ _ (by omega) (fun t ht => rfl) (by omega) hC hrs ho hP hS ls (lv_sub hl [1, 2, 3, 4, 0] rfl)
            exact L89 _ 0 f0 en1 _ _ (by omega) (fun t ht => absurd ht (by omega)) (Nat.lt_succ_self _) hC (hrs.to (by omega) (fun _ _ => rfl)) ho hP hS ls (lv_sub hl [4, 3, 2, 1, 0] rfl)
          · have c_64 := xcmp_gt.mp c_64
            refine x_sipush hx hb dX4_repeat_67 (by decide +kernel) ?_
            exact xe_i hx hb hrt hlocks hP hS ((by unfold am_repeat; simp only [Int.toNat_natCast]; simp only [sp_get_s hS_t1]; rw [sp_if_f (by omega), sp_if_f (by simp [hS_t1]), sp_if_f (by omega), sp_if_t (by omega)]; exact ⟨rfl, hC, xO.rf⟩)) dX4_repeat_70
        · refine x_sipush hx hb dX4_repeat_44 (by decide +kernel) ?_
          exact xe_i hx hb hrt hlocks hP hS ((by unfold am_repeat; simp only [Int.toNat_natCast]; simp only [sp_get_s hS_t1]; rw [sp_if_f (by omega), sp_if_f (by simp [hS_t1]), sp_if_t (by omega)]; exact ⟨rfl, hC, xO.rf⟩)) dX4_repeat_47
      · have hT_t1 : XT cA ad en (21 + 3 * t1) (some r_t1) := by have q : XT cA ad en (21 + 3 * t1) (S.2.1 t1) := hC.rt h_t1; rw [hS_t1] at q; exact q
        have hr_t1 := hT_t1.2
        have hm_t1 := hr_t1.2.2.1
        refine lv_aload_n hx hb dX4_repeat_0 rfl (lv_at hl 0 rfl) ?_
        refine lv_iload_n hx hb dX4_repeat_1 rfl (lv_at hl 1 rfl) ?_
        refine xv_q (i := 0) (As := [.int (xI (t1 : Int))]) (rest := []) ⟨hx, hb, hml, hown, hts⟩ hl.1 (c_X4_textOf_in l D cA n ad en (by omega) hC t1 (by omega)) k_X4_textOf u_ml_RX4_97 hK hN hP (by omega) hC.1 rfl rfl rfl rfl (Nat.le_of_ble_eq_true rfl) ⟨Nat.le_of_ble_eq_true rfl, Nat.le_of_ble_eq_true rfl⟩ ⟨Nat.le_of_ble_eq_true rfl, Nat.le_of_ble_eq_true rfl⟩ dX4_repeat_2 ?_
        refine lv_astore (lv' := [(4, .ref (ad (21 + 3 * t1))), (0, .ref (ad 0)), (1, .int (xI (t1 : Int))), (2, .int (xI z2)), (3, .int (xI z3))]) hx hb dX4_repeat_5 hl (by decide) rfl (fun ls hl => ?_)
        refine lv_aload_n hx hb dX4_repeat_7 rfl (lv_at hl 1 rfl) ?_
        refine lv_iload_n hx hb dX4_repeat_8 rfl (lv_at hl 4 rfl) ?_
        refine xv_q (i := 0) (As := [.int (xI z3)]) (rest := []) ⟨hx, hb, hml, hown, hts⟩ hl.1 (c_X4_textOf_out l D cA n ad en (by omega) hC z3 (by omega) (by omega)) k_X4_textOf u_ml_RX4_97 hK hN hP (by omega) hC.1 rfl rfl rfl rfl (Nat.le_of_ble_eq_true rfl) ⟨Nat.le_of_ble_eq_true rfl, Nat.le_of_ble_eq_true rfl⟩ ⟨Nat.le_of_ble_eq_true rfl, Nat.le_of_ble_eq_true rfl⟩ dX4_repeat_9 ?_
        refine lv_astoreN (lv' := [(5, .null), (4, .ref (ad (21 + 3 * t1))), (0, .ref (ad 0)), (1, .int (xI (t1 : Int))), (2, .int (xI z2)), (3, .int (xI z3))]) hx hb dX4_repeat_12 hl (by decide) rfl (fun ls hl => ?_)
        refine lv_aload hx hb dX4_repeat_14 (lv_at hl 1 rfl) ?_
        refine lv_ifnull hx hb dX4_repeat_16 ?_
        refine lv_aloadN hx hb dX4_repeat_19 (lv_at hl 0 rfl) ?_
        refine lv_ifnonnullN hx hb dX4_repeat_21 ?_
        refine x_sipush hx hb dX4_repeat_24 (by decide +kernel) ?_
        exact xe_i hx hb hrt hlocks hP hS ((by unfold am_repeat; simp only [Int.toNat_natCast]; simp only [sp_get_s hS_t1]; rw [sp_if_t (by omega)]; exact ⟨rfl, hC, xO.rf⟩)) dX4_repeat_27
  · rcases Classical.em (0 ≤ z3 ∧ z3 < 8) with hx_z3 | hx_z3
    · obtain ⟨t3, rfl⟩ : ∃ q : Nat, z3 = (q : Int) := ⟨z3.toNat, by omega⟩
      have h_t3 : t3 < 8 := by omega
      have hT_t3 : XT cA ad en (21 + 3 * t3) (S.2.1 t3) := hC.rt h_t3
      obtain ⟨zm_t3, tm_t3, tf_t3, hO_t3, hr_t3⟩ := hT_t3.any
      refine lv_aload_n hx hb dX4_repeat_0 rfl (lv_at hl 0 rfl) ?_
      refine lv_iload_n hx hb dX4_repeat_1 rfl (lv_at hl 1 rfl) ?_
      refine xv_q (i := 0) (As := [.int (xI z1)]) (rest := []) ⟨hx, hb, hml, hown, hts⟩ hl.1 (c_X4_textOf_out l D cA n ad en (by omega) hC z1 (by omega) (by omega)) k_X4_textOf u_ml_RX4_97 hK hN hP (by omega) hC.1 rfl rfl rfl rfl (Nat.le_of_ble_eq_true rfl) ⟨Nat.le_of_ble_eq_true rfl, Nat.le_of_ble_eq_true rfl⟩ ⟨Nat.le_of_ble_eq_true rfl, Nat.le_of_ble_eq_true rfl⟩ dX4_repeat_2 ?_
      refine lv_astoreN (lv' := [(4, .null), (0, .ref (ad 0)), (1, .int (xI z1)), (2, .int (xI z2)), (3, .int (xI (t3 : Int)))]) hx hb dX4_repeat_5 hl (by decide) rfl (fun ls hl => ?_)
      refine lv_aload_n hx hb dX4_repeat_7 rfl (lv_at hl 1 rfl) ?_
      refine lv_iload_n hx hb dX4_repeat_8 rfl (lv_at hl 4 rfl) ?_
      refine xv_q (i := 0) (As := [.int (xI (t3 : Int))]) (rest := []) ⟨hx, hb, hml, hown, hts⟩ hl.1 (c_X4_textOf_in l D cA n ad en (by omega) hC t3 (by omega)) k_X4_textOf u_ml_RX4_97 hK hN hP (by omega) hC.1 rfl rfl rfl rfl (Nat.le_of_ble_eq_true rfl) ⟨Nat.le_of_ble_eq_true rfl, Nat.le_of_ble_eq_true rfl⟩ ⟨Nat.le_of_ble_eq_true rfl, Nat.le_of_ble_eq_true rfl⟩ dX4_repeat_9 ?_
      refine lv_astore (lv' := [(5, .ref (ad (21 + 3 * t3))), (4, .null), (0, .ref (ad 0)), (1, .int (xI z1)), (2, .int (xI z2)), (3, .int (xI (t3 : Int)))]) hx hb dX4_repeat_12 hl (by decide) rfl (fun ls hl => ?_)
      refine lv_aloadN hx hb dX4_repeat_14 (lv_at hl 1 rfl) ?_
      refine lv_ifnullN (tgt := 24) hx hb dX4_repeat_16 (by decide) ?_
      refine x_sipush hx hb dX4_repeat_24 (by decide +kernel) ?_
      exact xe_i hx hb hrt hlocks hP hS ((by unfold am_repeat; simp only [Int.toNat_natCast]; rw [sp_if_t (by omega)]; exact ⟨rfl, hC, xO.rf⟩)) dX4_repeat_27
    · refine lv_aload_n hx hb dX4_repeat_0 rfl (lv_at hl 0 rfl) ?_
      refine lv_iload_n hx hb dX4_repeat_1 rfl (lv_at hl 1 rfl) ?_
      refine xv_q (i := 0) (As := [.int (xI z1)]) (rest := []) ⟨hx, hb, hml, hown, hts⟩ hl.1 (c_X4_textOf_out l D cA n ad en (by omega) hC z1 (by omega) (by omega)) k_X4_textOf u_ml_RX4_97 hK hN hP (by omega) hC.1 rfl rfl rfl rfl (Nat.le_of_ble_eq_true rfl) ⟨Nat.le_of_ble_eq_true rfl, Nat.le_of_ble_eq_true rfl⟩ ⟨Nat.le_of_ble_eq_true rfl, Nat.le_of_ble_eq_true rfl⟩ dX4_repeat_2 ?_
      refine lv_astoreN (lv' := [(4, .null), (0, .ref (ad 0)), (1, .int (xI z1)), (2, .int (xI z2)), (3, .int (xI z3))]) hx hb dX4_repeat_5 hl (by decide) rfl (fun ls hl => ?_)
      refine lv_aload_n hx hb dX4_repeat_7 rfl (lv_at hl 1 rfl) ?_
      refine lv_iload_n hx hb dX4_repeat_8 rfl (lv_at hl 4 rfl) ?_
      refine xv_q (i := 0) (As := [.int (xI z3)]) (rest := []) ⟨hx, hb, hml, hown, hts⟩ hl.1 (c_X4_textOf_out l D cA n ad en (by omega) hC z3 (by omega) (by omega)) k_X4_textOf u_ml_RX4_97 hK hN hP (by omega) hC.1 rfl rfl rfl rfl (Nat.le_of_ble_eq_true rfl) ⟨Nat.le_of_ble_eq_true rfl, Nat.le_of_ble_eq_true rfl⟩ ⟨Nat.le_of_ble_eq_true rfl, Nat.le_of_ble_eq_true rfl⟩ dX4_repeat_9 ?_
      refine lv_astoreN (lv' := [(5, .null), (4, .null), (0, .ref (ad 0)), (1, .int (xI z1)), (2, .int (xI z2)), (3, .int (xI z3))]) hx hb dX4_repeat_12 hl (by decide) rfl (fun ls hl => ?_)
      refine lv_aloadN hx hb dX4_repeat_14 (lv_at hl 1 rfl) ?_
      refine lv_ifnullN (tgt := 24) hx hb dX4_repeat_16 (by decide) ?_
      refine x_sipush hx hb dX4_repeat_24 (by decide +kernel) ?_
      exact xe_i hx hb hrt hlocks hP hS ((by unfold am_repeat; rw [sp_if_t (by omega)]; exact ⟨rfl, hC, xO.rf⟩)) dX4_repeat_27
