theorem sp_up_id {α : Type} (f : Nat → α) (k : Nat) : sp_up f k (f k) = f := by
  funext j
  unfold sp_up
  by_cases h : j = k
  · rw [if_pos h, h]
  · rw [if_neg h]
theorem sp_find_x {P : Int → Prop} {b : Int} (hb : ¬ P b) : ∀ (k : Nat) (a : Int), (b - a).toNat = k → a ≤ b → sp_find P a (b + 1) = sp_find P a b := by
  intro k
  induction k with
  | zero =>
    intro a hk hab
    have e : a = b := by omega
    subst e
    rw [sp_find_f (by omega) hb, sp_find_e (by omega), sp_find_e (by omega)]
  | succ k ih =>
    intro a hk hab
    by_cases q : P a
    · rw [sp_find_t (by omega) q, sp_find_t (by omega) q]
    · rw [sp_find_f (by omega) q, sp_find_f (by omega) q]
      exact ih (a + 1) (by omega) (by omega)
theorem sp_st1 {f : Nat → Int} {m : Nat} {z x : Int} (h : 0 ≤ x ∧ x < m) : sp_st f m (fun _ => z) 1 x ↔ f x.toNat = z := by
  unfold sp_st
  constructor
  · rintro ⟨-, -, h3⟩
    exact h3 0 (by decide)
  · intro h1
    exact ⟨h.1, by omega, fun t ht => by rw [show t = 0 by omega]; exact h1⟩
theorem sp_st1_n {f : Nat → Int} {m : Nat} {z : Int} : ¬ sp_st f m (fun _ => z) 1 (m : Int) := by
  unfold sp_st
  omega
theorem m_findS {f : Nat → Int} {m : Nat} {z z3 : Int} : sp_find (sp_st f m (fun _ => z) 1) (max 0 (min z3 (m : Int))) ((m : Int) + 1) = sp_find (fun q : Int => f q.toNat = z) (max 0 z3) (m : Int) := by
  rw [sp_find_x sp_st1_n _ _ rfl (by omega)]
  by_cases q : z3 < (m : Int)
  · rw [show max 0 (min z3 (m : Int)) = max 0 z3 by omega]
    exact sp_find_c (fun x h1 h2 => sp_st1 (by omega))
  · rw [sp_find_e (by omega), sp_find_e (by omega)]
theorem m_rfindS {f : Nat → Int} {m : Nat} {z z3 : Int} : sp_rfind (sp_st f m (fun _ => z) 1) (min z3 (m : Int)) = sp_rfind (fun q : Int => f q.toNat = z) (min z3 ((m : Int) - 1)) := by
  have e : sp_rfind (sp_st f m (fun _ => z) 1) (min z3 (m : Int)) = sp_rfind (sp_st f m (fun _ => z) 1) (min z3 ((m : Int) - 1)) := by
    by_cases q : z3 < (m : Int)
    · rw [show min z3 (m : Int) = min z3 ((m : Int) - 1) by omega]
    · rw [show min z3 (m : Int) = (m : Int) by omega, show min z3 ((m : Int) - 1) = (m : Int) - 1 by omega]
      exact sp_rfind_f (by omega) sp_st1_n
  rw [e]
  exact sp_rfind_c (fun x h1 h2 => sp_st1 (by omega))
theorem sp_four_r (k : Nat) : 0 ≤ sp_four k ∧ sp_four k ≤ 255 := by have := sp_four_b k; omega
theorem MR.same {S : xSt} {M : MO} (hR : MR S M) (hW : WF S) {b : Nat} {f B' : Nat → Int} (hb : b < 4) (h1 : ∀ k : Nat, k < (S.1 b).1 → B' (200 * b + k) = f k) (h2 : ∀ j : Nat, j < 200 * b ∨ 200 * b + 200 ≤ j → B' j = M.built j) : MR (sp_up S.1 b ((S.1 b).1, f), S.2) (mO B' M.builtMany M.told M.toldMany M.row M.rowMany M.figures M.partText M.partFrom M.partMany M.parts M.cut M.cutMany M.isCut M.cutGives M.cutAt M.h) := by
  have q := hR.builder hW hb (hR.1 b hb).1 h1 h2
  rw [sp_up_id] at q
  exact q

set_option maxRecDepth 20000 in
theorem c_X5_at (l : Launch) (D : va_G) (cA : Nat → ClassId) (n : Nat) (ad : Nat → Nat) (en : Nat → va_E) (hn : 68 ≤ n) {M : MO} (hM : MW cA ad en M) {S : xSt} (hW : WF S) (hR : MR S M) (z1 : Int) (hz1 : -2147483648 ≤ z1 ∧ z1 ≤ 2147483647) (z2 : Int) (hz2 : -2147483648 ≤ z2 ∧ z2 ≤ 2147483647) : Met l yX5_at (Cond.code yX5_at cX5_at 3 (some .int) :: xU) (xrm 2 45) (va_Pc [.ref (ad 53), .int (xI z1), .int (xI z2)] (xB D cA n ad en)) (vp_Si (fun z => z = xI (am_at S z1 z2))) 0 0 (fun _ => False) := by
  refine xmet (by decide) (Nat.le_of_ble_eq_true rfl) (fun p e s mm args below meth c ls hx hb hrt hml hown hts hlocks hname hB hl => ?_)
  obtain ⟨hP, hK, hN⟩ := hB
  have hl : lv_has ls 3 [(0, .ref (ad 53)), (1, .int (xI z1)), (2, .int (xI z2))] := hl
  rcases Classical.em (0 ≤ z1 ∧ z1 < 4) with hx_z1 | hx_z1
  · obtain ⟨b1, rfl⟩ : ∃ q : Nat, z1 = (q : Int) := ⟨z1.toNat, by omega⟩
    have h_b1 : b1 < 4 := by omega
    have hm_b1 := (hW.1 b1 h_b1).1
    have hfb_b1 := (hW.1 b1 h_b1).2
    have hB_b1 := hR.1 b1 h_b1
    have hz_b1 := hB_b1.1
    refine lv_iload_n hx hb dX5_at_0 rfl (lv_at hl 1 rfl) ?_
    refine xt_i (As := [.int (xI (b1 : Int))]) (rest := []) ⟨hx, hb, hml, hown, hts⟩ hl.1 (c_X5_isBuilder l (b1 : Int) (by omega)) k_X5_isBuilder u_ml_RX5_70 rfl rfl (Nat.le_of_ble_eq_true rfl) ⟨Nat.le_of_ble_eq_true rfl, Nat.le_of_ble_eq_true rfl⟩ ⟨Nat.le_of_ble_eq_true rfl, Nat.le_of_ble_eq_true rfl⟩ dX5_at_1 ?_
    refine x_top (q1 := True) ⟨fun _ => trivial, fun _ => by omega⟩ ?_
    refine x_ifb_ne (tgt := 11) hx hb dX5_at_4 (by decide)  (fun c_4 => ?_) (fun c_4 => absurd trivial c_4)
    refine lv_iload_n hx hb dX5_at_11 rfl (lv_at hl 2 rfl) ?_
    refine x_i2l hx hb dX5_at_12 (by omega) ?_
    refine lv_lconst (v := xL 0) hx hb dX5_at_13 (by decide +kernel) ?_
    refine lv_aload_n hx hb dX5_at_14 rfl (lv_at hl 0 rfl) ?_
    refine x_get (T := TX5) (N := 17) hx hb hts uX5 hown hK hP (i := 53) (by omega) hM.1 rfl 1 (by decide) u_fl_RX5_13 rfl dX5_at_15 ?_
    refine lv_iload_n hx hb dX5_at_18 rfl (lv_at hl 1 rfl) ?_
    refine x_ild hx hb hK hP (i := 55) (by omega) hM.2.2.1 (x := ((S.1 b1).1 : Int)) (by omega) (congrArg xI hz_b1) dX5_at_19 ?_
    refine x_iconst hx hb dX5_at_20 ?_
    refine x_isub hx hb dX5_at_21 ?_
    refine x_i2l hx hb dX5_at_22 (by omega) ?_
    refine xt_i (As := [.long (xL z2), .long (xL 0), .long (xL (((S.1 b1).1 : Int) - 1))]) (rest := []) ⟨hx, hb, hml, hown, hts⟩ hl.1 (c_X5_in l z2 0 (((S.1 b1).1 : Int) - 1) (by omega) (by omega) (by omega)) k_X5_in u_ml_RX5_54 rfl rfl (Nat.le_of_ble_eq_true rfl) ⟨Nat.le_of_ble_eq_true rfl, Nat.le_of_ble_eq_true rfl⟩ ⟨Nat.le_of_ble_eq_true rfl, Nat.le_of_ble_eq_true rfl⟩ dX5_at_23 ?_
    refine x_ifb_eq (tgt := 44) hx hb dX5_at_26 (by decide)  (fun c_26 => ?_) (fun c_26 => ?_)
    · refine x_sipush hx hb dX5_at_44 (by decide +kernel) ?_
      exact xr_i hx hb hrt hlocks ((by unfold am_at; simp only [Int.toNat_natCast]; rw [sp_if_f (by omega), sp_if_t (by omega)])) dX5_at_47
    · refine lv_aload_n hx hb dX5_at_29 rfl (lv_at hl 0 rfl) ?_
      refine x_get (T := TX5) (N := 17) hx hb hts uX5 hown hK hP (i := 53) (by omega) hM.1 rfl 0 (by decide) u_fl_RX5_7 rfl dX5_at_30 ?_
      refine x_sipush hx hb dX5_at_33 (by decide +kernel) ?_
      refine lv_iload_n hx hb dX5_at_36 rfl (lv_at hl 1 rfl) ?_
      refine x_imul hx hb dX5_at_37 ?_
      refine lv_iload_n hx hb dX5_at_38 rfl (lv_at hl 2 rfl) ?_
      refine x_iadd hx hb dX5_at_39 ?_
      refine x_ild hx hb hK hP (i := 54) (by omega) hM.2.1 (x := M.built (Int.toNat ((200 * (b1 : Int)) + z2))) (by omega) (rfl) dX5_at_40 ?_
      refine x_to ((S.1 b1).2 (Int.toNat z2)) (by rw [show Int.toNat (200 * (b1 : Int) + z2) = 200 * b1 + Int.toNat z2 by omega]; exact hB_b1.2 _ (by omega)) ?_
      refine lv_goto (tgt := 47) hx hb dX5_at_41 (by decide) ?_
      exact xr_i hx hb hrt hlocks ((by unfold am_at; simp only [Int.toNat_natCast]; rw [sp_if_f (by omega), sp_if_f (by omega)])) dX5_at_47
  · refine lv_iload_n hx hb dX5_at_0 rfl (lv_at hl 1 rfl) ?_
    refine xt_i (As := [.int (xI z1)]) (rest := []) ⟨hx, hb, hml, hown, hts⟩ hl.1 (c_X5_isBuilder l z1 (by omega)) k_X5_isBuilder u_ml_RX5_70 rfl rfl (Nat.le_of_ble_eq_true rfl) ⟨Nat.le_of_ble_eq_true rfl, Nat.le_of_ble_eq_true rfl⟩ ⟨Nat.le_of_ble_eq_true rfl, Nat.le_of_ble_eq_true rfl⟩ dX5_at_1 ?_
    refine x_top (q1 := False) ⟨fun h => absurd h (by omega), False.elim⟩ ?_
    refine x_ifb_ne (tgt := 11) hx hb dX5_at_4 (by decide)  (fun c_4 => absurd c_4 id) (fun c_4 => ?_)
    refine x_sipush hx hb dX5_at_7 (by decide +kernel) ?_
    exact xr_i hx hb hrt hlocks ((by unfold am_at; rw [sp_if_t (by omega)])) dX5_at_10

set_option maxRecDepth 20000 in
theorem c_X5_size (l : Launch) (D : va_G) (cA : Nat → ClassId) (n : Nat) (ad : Nat → Nat) (en : Nat → va_E) (hn : 68 ≤ n) {M : MO} (hM : MW cA ad en M) {S : xSt} (hW : WF S) (hR : MR S M) (z1 : Int) (hz1 : -2147483648 ≤ z1 ∧ z1 ≤ 2147483647) : Met l yX5_size (Cond.code yX5_size cX5_size 2 (some .int) :: xU) (xrm 2 45) (va_Pc [.ref (ad 53), .int (xI z1)] (xB D cA n ad en)) (vp_Si (fun z => z = xI (am_size S z1))) 0 0 (fun _ => False) := by
  refine xmet (by decide) (Nat.le_of_ble_eq_true rfl) (fun p e s mm args below meth c ls hx hb hrt hml hown hts hlocks hname hB hl => ?_)
  obtain ⟨hP, hK, hN⟩ := hB
  have hl : lv_has ls 2 [(0, .ref (ad 53)), (1, .int (xI z1))] := hl
  rcases Classical.em (0 ≤ z1 ∧ z1 < 4) with hx_z1 | hx_z1
  · obtain ⟨b1, rfl⟩ : ∃ q : Nat, z1 = (q : Int) := ⟨z1.toNat, by omega⟩
    have h_b1 : b1 < 4 := by omega
    have hm_b1 := (hW.1 b1 h_b1).1
    have hfb_b1 := (hW.1 b1 h_b1).2
    have hB_b1 := hR.1 b1 h_b1
    have hz_b1 := hB_b1.1
    refine lv_iload_n hx hb dX5_size_0 rfl (lv_at hl 1 rfl) ?_
    refine xt_i (As := [.int (xI (b1 : Int))]) (rest := []) ⟨hx, hb, hml, hown, hts⟩ hl.1 (c_X5_isBuilder l (b1 : Int) (by omega)) k_X5_isBuilder u_ml_RX5_70 rfl rfl (Nat.le_of_ble_eq_true rfl) ⟨Nat.le_of_ble_eq_true rfl, Nat.le_of_ble_eq_true rfl⟩ ⟨Nat.le_of_ble_eq_true rfl, Nat.le_of_ble_eq_true rfl⟩ dX5_size_1 ?_
    refine x_top (q1 := True) ⟨fun _ => trivial, fun _ => by omega⟩ ?_
    refine x_ifb_eq (tgt := 16) hx hb dX5_size_4 (by decide)  (fun c_4 => absurd trivial c_4) (fun c_4 => ?_)
    refine lv_aload_n hx hb dX5_size_7 rfl (lv_at hl 0 rfl) ?_
    refine x_get (T := TX5) (N := 17) hx hb hts uX5 hown hK hP (i := 53) (by omega) hM.1 rfl 1 (by decide) u_fl_RX5_13 rfl dX5_size_8 ?_
    refine lv_iload_n hx hb dX5_size_11 rfl (lv_at hl 1 rfl) ?_
    refine x_ild hx hb hK hP (i := 55) (by omega) hM.2.2.1 (x := ((S.1 b1).1 : Int)) (by omega) (congrArg xI hz_b1) dX5_size_12 ?_
    refine lv_goto (tgt := 19) hx hb dX5_size_13 (by decide) ?_
    exact xr_i hx hb hrt hlocks ((by unfold am_size; simp only [Int.toNat_natCast]; rw [sp_if_f (by omega)])) dX5_size_19
  · refine lv_iload_n hx hb dX5_size_0 rfl (lv_at hl 1 rfl) ?_
    refine xt_i (As := [.int (xI z1)]) (rest := []) ⟨hx, hb, hml, hown, hts⟩ hl.1 (c_X5_isBuilder l z1 (by omega)) k_X5_isBuilder u_ml_RX5_70 rfl rfl (Nat.le_of_ble_eq_true rfl) ⟨Nat.le_of_ble_eq_true rfl, Nat.le_of_ble_eq_true rfl⟩ ⟨Nat.le_of_ble_eq_true rfl, Nat.le_of_ble_eq_true rfl⟩ dX5_size_1 ?_
    refine x_top (q1 := False) ⟨fun h => absurd h (by omega), False.elim⟩ ?_
    refine x_ifb_eq (tgt := 16) hx hb dX5_size_4 (by decide)  (fun c_4 => ?_) (fun c_4 => absurd c_4 id)
    refine x_sipush hx hb dX5_size_16 (by decide +kernel) ?_
    exact xr_i hx hb hrt hlocks ((by unfold am_size; rw [sp_if_t (by omega)])) dX5_size_19

set_option maxRecDepth 20000 in
theorem c_X5_put (l : Launch) (D : va_G) (cA : Nat → ClassId) (n : Nat) (ad : Nat → Nat) (en : Nat → va_E) (sz : Nat) (hn : 68 ≤ n) {M : MO} (hM : MW cA ad en M) {S : xSt} (hW : WF S) (hR : MR S M) (z1 : Int) (hz1 : -2147483648 ≤ z1 ∧ z1 ≤ 2147483647) (z2 : Int) (hz2 : -2147483648 ≤ z2 ∧ z2 ≤ 2147483647) (z3 : Int) (hz3 : -2147483648 ≤ z3 ∧ z3 ≤ 2147483647) : Met l yX5_put (Cond.code yX5_put cX5_put 5 (some .int) :: xU) (xrm 2 45) (va_Pc [.ref (ad 53), .int (xI z1), .int (xI z2), .int (xI z3)] (xM D cA n ad en sz)) (va_Qi (fun r u => r = xI (am_put S z1 z2 z3).1 ∧ ∃ M' : MO, MW cA ad u M' ∧ MR (am_put S z1 z2 z3).2 M' ∧ xO 53 68 en u) (xE D n ad) (xA n ad sz)) 0 0 (xA n ad sz) := by
  refine xmet (by decide) (Nat.le_of_ble_eq_true rfl) (fun p e s mm args below meth c ls hx hb hrt hml hown hts hlocks hname hB hl => ?_)
  obtain ⟨⟨hP, hK, hN⟩, hsz, hDt⟩ := hB
  have hD : xD (xA n ad sz) n ad := xD_self hDt sz
  have hA : ∀ q : Nat, s.heap.size ≤ q → xA n ad sz q := fun q h => Or.inr (by rw [← hsz]; exact h)
  have hS : va_S (xA n ad sz) s.heap s.heap [] := va_S.rf
  have hown : s.vm.findClass RX5 = some mm.cls := hown
  have hl : lv_has ls 5 [(0, .ref (ad 53)), (1, .int (xI z1)), (2, .int (xI z2)), (3, .int (xI z3))] := hl
  have ho : xO 53 68 en en := xO.rf
  rcases Classical.em (0 ≤ z1 ∧ z1 < 4) with hx_z1 | hx_z1
  · obtain ⟨b1, rfl⟩ : ∃ q : Nat, z1 = (q : Int) := ⟨z1.toNat, by omega⟩
    have h_b1 : b1 < 4 := by omega
    have hm_b1 := (hW.1 b1 h_b1).1
    have hfb_b1 := (hW.1 b1 h_b1).2
    have hB_b1 := hR.1 b1 h_b1
    have hz_b1 := hB_b1.1
    refine lv_iload_n hx hb dX5_put_0 rfl (lv_at hl 1 rfl) ?_
    refine xt_i (As := [.int (xI (b1 : Int))]) (rest := []) ⟨hx, hb, hml, hown, hts⟩ hl.1 (c_X5_isBuilder l (b1 : Int) (by omega)) k_X5_isBuilder u_ml_RX5_70 rfl rfl (Nat.le_of_ble_eq_true rfl) ⟨Nat.le_of_ble_eq_true rfl, Nat.le_of_ble_eq_true rfl⟩ ⟨Nat.le_of_ble_eq_true rfl, Nat.le_of_ble_eq_true rfl⟩ dX5_put_1 ?_
    refine x_top (q1 := True) ⟨fun _ => trivial, fun _ => by omega⟩ ?_
    refine x_ifb_ne (tgt := 11) hx hb dX5_put_4 (by decide)  (fun c_4 => ?_) (fun c_4 => absurd trivial c_4)
    refine lv_iload_n hx hb dX5_put_11 rfl (lv_at hl 3 rfl) ?_
    refine xt_i (As := [.int (xI z3)]) (rest := []) ⟨hx, hb, hml, hown, hts⟩ hl.1 (c_X5_isSign l z3 (by omega)) k_X5_isSign u_ml_RX5_74 rfl rfl (Nat.le_of_ble_eq_true rfl) ⟨Nat.le_of_ble_eq_true rfl, Nat.le_of_ble_eq_true rfl⟩ ⟨Nat.le_of_ble_eq_true rfl, Nat.le_of_ble_eq_true rfl⟩ dX5_put_12 ?_
    refine x_ifb_ne (tgt := 22) hx hb dX5_put_15 (by decide)  (fun c_15 => ?_) (fun c_15 => ?_)
    · refine lv_iload_n hx hb dX5_put_22 rfl (lv_at hl 2 rfl) ?_
      refine x_i2l hx hb dX5_put_23 (by omega) ?_
      refine lv_lconst (v := xL 0) hx hb dX5_put_24 (by decide +kernel) ?_
      refine lv_aload_n hx hb dX5_put_25 rfl (lv_at hl 0 rfl) ?_
      refine x_get (T := TX5) (N := 17) hx hb hts uX5 hown hK hP (i := 53) (by omega) hM.1 rfl 1 (by decide) u_fl_RX5_13 rfl dX5_put_26 ?_
      refine lv_iload_n hx hb dX5_put_29 rfl (lv_at hl 1 rfl) ?_
      refine x_ild hx hb hK hP (i := 55) (by omega) hM.2.2.1 (x := ((S.1 b1).1 : Int)) (by omega) (congrArg xI hz_b1) dX5_put_30 ?_
      refine x_iconst hx hb dX5_put_31 ?_
      refine x_isub hx hb dX5_put_32 ?_
      refine x_i2l hx hb dX5_put_33 (by omega) ?_
      refine xt_i (As := [.long (xL z2), .long (xL 0), .long (xL (((S.1 b1).1 : Int) - 1))]) (rest := []) ⟨hx, hb, hml, hown, hts⟩ hl.1 (c_X5_in l z2 0 (((S.1 b1).1 : Int) - 1) (by omega) (by omega) (by omega)) k_X5_in u_ml_RX5_54 rfl rfl (Nat.le_of_ble_eq_true rfl) ⟨Nat.le_of_ble_eq_true rfl, Nat.le_of_ble_eq_true rfl⟩ ⟨Nat.le_of_ble_eq_true rfl, Nat.le_of_ble_eq_true rfl⟩ dX5_put_34 ?_
      refine x_ifb_ne (tgt := 44) hx hb dX5_put_37 (by decide)  (fun c_37 => ?_) (fun c_37 => ?_)
      · obtain ⟨a2, hv_z2⟩ : ∃ q : Nat, z2 = (q : Int) := ⟨Int.toNat z2, by omega⟩
        have hl : lv_has ls 5 [(0, .ref (ad 53)), (1, .int (xI (b1 : Int))), (2, .int (xI (a2 : Int))), (3, .int (xI z3))] := by rw [← hv_z2]; exact hl
        refine lv_aload_n hx hb dX5_put_44 rfl (lv_at hl 0 rfl) ?_
        refine x_get (T := TX5) (N := 17) hx hb hts uX5 hown hK hP (i := 53) (by omega) hM.1 rfl 0 (by decide) u_fl_RX5_7 rfl dX5_put_45 ?_
        refine x_sipush hx hb dX5_put_48 (by decide +kernel) ?_
        refine lv_iload_n hx hb dX5_put_51 rfl (lv_at hl 1 rfl) ?_
        refine x_imul hx hb dX5_put_52 ?_
        refine lv_iload_n hx hb dX5_put_53 rfl (lv_at hl 2 rfl) ?_
        refine x_iadd hx hb dX5_put_54 ?_
        refine x_ild hx hb hK hP (i := 54) (by omega) hM.2.1 (x := M.built ((200 * b1) + a2)) (by omega) (congrArg (fun q => xI (M.built q)) (show Int.toNat ((200 * (b1 : Int)) + (a2 : Int)) = (200 * b1) + a2 by omega)) dX5_put_55 ?_
        refine x_to ((S.1 b1).2 a2) (hB_b1.2 a2 (by omega)) ?_
        refine lv_istore (lv' := [(4, .int (xI ((S.1 b1).2 a2))), (0, .ref (ad 53)), (1, .int (xI (b1 : Int))), (2, .int (xI (a2 : Int))), (3, .int (xI z3))]) hx hb dX5_put_56 hl (by decide) rfl (fun ls hl => ?_)
        refine lv_aload_n hx hb dX5_put_58 rfl (lv_at hl 1 rfl) ?_
        refine x_get (T := TX5) (N := 17) hx hb hts uX5 hown hK hP (i := 53) (by omega) hM.1 rfl 0 (by decide) u_fl_RX5_7 rfl dX5_put_59 ?_
        refine x_sipush hx hb dX5_put_62 (by decide +kernel) ?_
        refine lv_iload_n hx hb dX5_put_65 rfl (lv_at hl 2 rfl) ?_
        refine x_imul hx hb dX5_put_66 ?_
        refine lv_iload_n hx hb dX5_put_67 rfl (lv_at hl 3 rfl) ?_
        refine x_iadd hx hb dX5_put_68 ?_
        refine lv_iload_n hx hb dX5_put_69 rfl (lv_at hl 4 rfl) ?_
        refine x_ist hx hb hK hP hD hS (i := 54) (by omega) hM.2.1 (by omega) dX5_put_70 (fun H locs hP hS => ?_)
        obtain ⟨en1, he1⟩ : ∃ z, z = va_up en 54 (.inl (cA 0, 800, .inl (upd (fun k => xI (M.built k)) ((200 * b1) + a2) (xI z3)))) := ⟨_, rfl⟩
        have hP : va_P D vwCl (xw n ad en1) H := by rw [he1, show (200 * b1) + a2 = (Int.toNat ((200 * (b1 : Int)) + (a2 : Int))) by omega]; exact hP
        have hM : MW cA ad en1 (mO (sp_up M.built ((200 * b1) + a2) z3) M.builtMany M.told M.toldMany M.row M.rowMany M.figures M.partText M.partFrom M.partMany M.parts M.cut M.cutMany M.isCut M.cutGives M.cutAt M.h) := by rw [he1]; exact hM.u_built ((200 * b1) + a2) z3
        have ho : xO 53 68 en en1 := by rw [he1]; exact ho.up (by omega) (by omega)
        refine lv_iload hx hb dX5_put_71 (lv_at hl 0 rfl) ?_
        exact xe_i hx hb hrt hlocks hP hS ((by unfold am_put; simp only [Int.toNat_natCast]; rw [sp_if_f (by omega), sp_if_f (by omega), sp_if_f (by omega)]; (try rw [show Int.toNat z2 = a2 by omega]); have q9 := hR.same hW h_b1 (f := sp_up (S.1 b1).2 a2 z3) (B' := sp_up M.built (200 * b1 + a2) z3) (fun k hk => by
    by_cases q : k = a2
    · rw [q, sp_up_s, sp_up_s]
    · rw [sp_up_n _ _ q, sp_up_n _ _ (by omega)]; exact hB_b1.2 k hk) (fun j hj => sp_up_n _ _ (by omega)); exact ⟨rfl, _, hM, q9, ho⟩)) dX5_put_73
      · refine x_sipush hx hb dX5_put_40 (by decide +kernel) ?_
        exact xe_i hx hb hrt hlocks hP hS ((by unfold am_put; simp only [Int.toNat_natCast]; rw [sp_if_f (by omega), sp_if_f (by omega), sp_if_t (by omega)]; exact ⟨rfl, _, hM, hR, ho⟩)) dX5_put_43
    · refine x_sipush hx hb dX5_put_18 (by decide +kernel) ?_
      exact xe_i hx hb hrt hlocks hP hS ((by unfold am_put; simp only [Int.toNat_natCast]; rw [sp_if_f (by omega), sp_if_t (by omega)]; exact ⟨rfl, _, hM, hR, ho⟩)) dX5_put_21
  · refine lv_iload_n hx hb dX5_put_0 rfl (lv_at hl 1 rfl) ?_
    refine xt_i (As := [.int (xI z1)]) (rest := []) ⟨hx, hb, hml, hown, hts⟩ hl.1 (c_X5_isBuilder l z1 (by omega)) k_X5_isBuilder u_ml_RX5_70 rfl rfl (Nat.le_of_ble_eq_true rfl) ⟨Nat.le_of_ble_eq_true rfl, Nat.le_of_ble_eq_true rfl⟩ ⟨Nat.le_of_ble_eq_true rfl, Nat.le_of_ble_eq_true rfl⟩ dX5_put_1 ?_
    refine x_top (q1 := False) ⟨fun h => absurd h (by omega), False.elim⟩ ?_
    refine x_ifb_ne (tgt := 11) hx hb dX5_put_4 (by decide)  (fun c_4 => absurd c_4 id) (fun c_4 => ?_)
    refine x_sipush hx hb dX5_put_7 (by decide +kernel) ?_
    exact xe_i hx hb hrt hlocks hP hS ((by unfold am_put; rw [sp_if_t (by omega)]; exact ⟨rfl, _, hM, hR, ho⟩)) dX5_put_10

set_option maxRecDepth 20000 in
theorem c_X5_length (l : Launch) (D : va_G) (cA : Nat → ClassId) (n : Nat) (ad : Nat → Nat) (en : Nat → va_E) (sz : Nat) (hn : 68 ≤ n) {M : MO} (hM : MW cA ad en M) {S : xSt} (hW : WF S) (hR : MR S M) (z1 : Int) (hz1 : -2147483648 ≤ z1 ∧ z1 ≤ 2147483647) (z2 : Int) (hz2 : -2147483648 ≤ z2 ∧ z2 ≤ 2147483647) : Met l yX5_length (Cond.code yX5_length cX5_length 5 (some .int) :: xU) (xrm 2 45) (va_Pc [.ref (ad 53), .int (xI z1), .int (xI z2)] (xM D cA n ad en sz)) (va_Qi (fun r u => r = xI (am_length S z1 z2).1 ∧ ∃ M' : MO, MW cA ad u M' ∧ MR (am_length S z1 z2).2 M' ∧ xO 53 68 en u) (xE D n ad) (xA n ad sz)) 0 0 (xA n ad sz) := by
  refine xmet (by decide) (Nat.le_of_ble_eq_true rfl) (fun p e s mm args below meth c ls hx hb hrt hml hown hts hlocks hname hB hl => ?_)
  obtain ⟨⟨hP, hK, hN⟩, hsz, hDt⟩ := hB
  have hD : xD (xA n ad sz) n ad := xD_self hDt sz
  have hA : ∀ q : Nat, s.heap.size ≤ q → xA n ad sz q := fun q h => Or.inr (by rw [← hsz]; exact h)
  have hS : va_S (xA n ad sz) s.heap s.heap [] := va_S.rf
  have hown : s.vm.findClass RX5 = some mm.cls := hown
  have hl : lv_has ls 5 [(0, .ref (ad 53)), (1, .int (xI z1)), (2, .int (xI z2))] := hl
  have ho : xO 53 68 en en := xO.rf
  rcases Classical.em (0 ≤ z1 ∧ z1 < 4) with hx_z1 | hx_z1
  · obtain ⟨b1, rfl⟩ : ∃ q : Nat, z1 = (q : Int) := ⟨z1.toNat, by omega⟩
    have h_b1 : b1 < 4 := by omega
    have hm_b1 := (hW.1 b1 h_b1).1
    have hfb_b1 := (hW.1 b1 h_b1).2
    have hB_b1 := hR.1 b1 h_b1
    have hz_b1 := hB_b1.1
    refine lv_iload_n hx hb dX5_length_0 rfl (lv_at hl 1 rfl) ?_
    refine xt_i (As := [.int (xI (b1 : Int))]) (rest := []) ⟨hx, hb, hml, hown, hts⟩ hl.1 (c_X5_isBuilder l (b1 : Int) (by omega)) k_X5_isBuilder u_ml_RX5_70 rfl rfl (Nat.le_of_ble_eq_true rfl) ⟨Nat.le_of_ble_eq_true rfl, Nat.le_of_ble_eq_true rfl⟩ ⟨Nat.le_of_ble_eq_true rfl, Nat.le_of_ble_eq_true rfl⟩ dX5_length_1 ?_
    refine x_top (q1 := True) ⟨fun _ => trivial, fun _ => by omega⟩ ?_
    refine x_ifb_ne (tgt := 11) hx hb dX5_length_4 (by decide)  (fun c_4 => ?_) (fun c_4 => absurd trivial c_4)
    refine lv_iload_n hx hb dX5_length_11 rfl (lv_at hl 2 rfl) ?_
    refine x_if_ge (tgt := 19) hx hb dX5_length_12 (by decide) (by omega) (fun c_12 => ?_) (fun c_12 => ?_)
    · refine lv_iload_n hx hb dX5_length_19 rfl (lv_at hl 2 rfl) ?_
      refine x_sipush hx hb dX5_length_20 (by decide +kernel) ?_
      refine x_icmp_le (tgt := 30) hx hb dX5_length_23 (by decide) (by omega) (fun c_23 => ?_) (fun c_23 => ?_)
      · obtain ⟨k2, hv_z2⟩ : ∃ q : Nat, z2 = (q : Int) := ⟨Int.toNat z2, by omega⟩
        have hl : lv_has ls 5 [(0, .ref (ad 53)), (1, .int (xI (b1 : Int))), (2, .int (xI (k2 : Int)))] := by rw [← hv_z2]; exact hl
        refine lv_aload_n hx hb dX5_length_30 rfl (lv_at hl 0 rfl) ?_
        refine x_get (T := TX5) (N := 17) hx hb hts uX5 hown hK hP (i := 53) (by omega) hM.1 rfl 1 (by decide) u_fl_RX5_13 rfl dX5_length_31 ?_
        refine lv_iload_n hx hb dX5_length_34 rfl (lv_at hl 1 rfl) ?_
        refine x_ild hx hb hK hP (i := 55) (by omega) hM.2.2.1 (x := ((S.1 b1).1 : Int)) (by omega) (congrArg xI hz_b1) dX5_length_35 ?_
        refine lv_istore_n (lv' := [(3, .int (xI ((S.1 b1).1 : Int))), (0, .ref (ad 53)), (1, .int (xI (b1 : Int))), (2, .int (xI (k2 : Int)))]) hx hb dX5_length_36 rfl hl (by decide) rfl (fun ls hl => ?_)
        refine lv_iload_n hx hb dX5_length_37 rfl (lv_at hl 0 rfl) ?_
        refine lv_istore (lv' := [(4, .int (xI ((S.1 b1).1 : Int))), (3, .int (xI ((S.1 b1).1 : Int))), (0, .ref (ad 53)), (1, .int (xI (b1 : Int))), (2, .int (xI (k2 : Int)))]) hx hb dX5_length_38 hl (by decide) rfl (fun ls hl => ?_)
        have L40 : ∀ (nn : Nat) (K : Nat) (F : Nat → Int) (ew40 : Nat → va_E) (H : Heap) (locs : List Loc), ((S.1 b1).1 ≤ K ∧ (K ≤ k2 ∨ K = (S.1 b1).1)) → ((∀ j : Nat, (S.1 b1).1 ≤ j → j < K → F (200 * b1 + j) = 0) ∧ ∀ j : Nat, j < 200 * b1 + (S.1 b1).1 ∨ 200 * b1 + K ≤ j → F j = M.built j) → (k2 - K) < nn → (MW cA ad ew40 (mO F M.builtMany M.told M.toldMany M.row M.rowMany M.figures M.partText M.partFrom M.partMany M.parts M.cut M.cutMany M.isCut M.cutGives M.cutAt M.h)) → (xO 53 68 en ew40) → va_P D vwCl (xw n ad ew40) H → va_S (xA n ad sz) s.heap H locs → ∀ ls : Array Slot, lv_has ls 5 [(0, .ref (ad 53)), (1, .int (xI (b1 : Int))), (2, .int (xI (k2 : Int))), (3, .int (xI ((S.1 b1).1 : Int))), (4, .int (xI (K : Int)))] → W p l e (xrm 2 45) s mm args below meth c H locs 0 0 (MQ below (va_Qi (fun r u => r = xI (am_length S (b1 : Int) z2).1 ∧ ∃ M' : MO, MW cA ad u M' ∧ MR (am_length S (b1 : Int) z2).2 M' ∧ xO 53 68 en u) (xE D n ad) (xA n ad sz)) args s 0 0 (xA n ad sz)) (F0 mm 40 ls []) := by
          intro nn
          induction nn with
          | zero =>
            intro K F ew40 H locs hk8 hF hmm hM ho hP hS ls hl
            exact absurd hmm (Nat.not_lt_zero _)
          | succ nn ih =>
            intro K F ew40 H locs hk8 hF hmm hM ho hP hS ls hl
            refine lv_iload hx hb dX5_length_40 (lv_at hl 4 rfl) ?_
            refine lv_iload_n hx hb dX5_length_42 rfl (lv_at hl 2 rfl) ?_
            refine x_icmp_ge (tgt := 66) hx hb dX5_length_43 (by decide) (by omega) (fun c_43 => ?_) (fun c_43 => ?_)
            · refine lv_aload_n hx hb dX5_length_66 rfl (lv_at hl 0 rfl) ?_
              refine x_get (T := TX5) (N := 17) hx hb hts uX5 hown hK hP (i := 53) (by omega) (show ew40 53 = .inr (5, [.ref (ad 54), .ref (ad 55), .ref (ad 56), .ref (ad 57), .ref (ad 58), .int (xI M.rowMany), .ref (ad 59), .ref (ad 60), .ref (ad 61), .ref (ad 62), .int (xI M.parts), .ref (ad 63), .ref (ad 64), .ref (ad 65), .ref (ad 66), .ref (ad 67), .long M.h]) from hM.1) rfl 1 (by decide) u_fl_RX5_13 rfl dX5_length_67 ?_
              refine lv_iload_n hx hb dX5_length_70 rfl (lv_at hl 1 rfl) ?_
              refine lv_iload_n hx hb dX5_length_71 rfl (lv_at hl 2 rfl) ?_
              refine x_ist hx hb hK hP hD hS (i := 55) (by omega) hM.2.2.1 (by omega) dX5_length_72 (fun H locs hP hS => ?_)
              obtain ⟨en1, he1⟩ : ∃ z, z = va_up ew40 55 (.inl (cA 0, 4, .inl (upd (fun k => xI (M.builtMany k)) b1 (xI (k2 : Int))))) := ⟨_, rfl⟩
              have hP : va_P D vwCl (xw n ad en1) H := by rw [he1]; exact hP
              have hM : MW cA ad en1 (mO F (sp_up M.builtMany b1 (k2 : Int)) M.told M.toldMany M.row M.rowMany M.figures M.partText M.partFrom M.partMany M.parts M.cut M.cutMany M.isCut M.cutGives M.cutAt M.h) := by rw [he1]; exact hM.u_builtMany b1 (k2 : Int)
              have ho : xO 53 68 en en1 := by rw [he1]; exact ho.up (by omega) (by omega)
              refine lv_iload_n hx hb dX5_length_73 rfl (lv_at hl 3 rfl) ?_
              exact xe_i hx hb hrt hlocks hP hS ((by unfold am_length; simp only [Int.toNat_natCast]; rw [sp_if_f (by omega), sp_if_f (by omega), sp_if_f (by omega)]; (try rw [show Int.toNat z2 = k2 by omega]); have q9 := hR.builder hW h_b1 (m := k2) (z := (k2 : Int)) (f := fun q => if q < (S.1 b1).1 then (S.1 b1).2 q else 0) (B' := F) rfl (fun k hk => by
    by_cases q : k < (S.1 b1).1
    · rw [if_pos q, hF.2 _ (by omega)]; exact hB_b1.2 k q
    · rw [if_neg q]; exact hF.1 k (by omega) (by omega)) (fun j hj => hF.2 j (by omega)); exact ⟨rfl, _, hM, q9, ho⟩)) dX5_length_74
            · refine lv_aload_n hx hb dX5_length_46 rfl (lv_at hl 0 rfl) ?_
              refine x_get (T := TX5) (N := 17) hx hb hts uX5 hown hK hP (i := 53) (by omega) (show ew40 53 = .inr (5, [.ref (ad 54), .ref (ad 55), .ref (ad 56), .ref (ad 57), .ref (ad 58), .int (xI M.rowMany), .ref (ad 59), .ref (ad 60), .ref (ad 61), .ref (ad 62), .int (xI M.parts), .ref (ad 63), .ref (ad 64), .ref (ad 65), .ref (ad 66), .ref (ad 67), .long M.h]) from hM.1) rfl 0 (by decide) u_fl_RX5_7 rfl dX5_length_47 ?_
              refine x_sipush hx hb dX5_length_50 (by decide +kernel) ?_
              refine lv_iload_n hx hb dX5_length_53 rfl (lv_at hl 1 rfl) ?_
              refine x_imul hx hb dX5_length_54 ?_
              refine lv_iload hx hb dX5_length_55 (lv_at hl 4 rfl) ?_
              refine x_iadd hx hb dX5_length_57 ?_
              refine x_iconst hx hb dX5_length_58 ?_
              refine x_ist hx hb hK hP hD hS (i := 54) (by omega) hM.2.1 (by omega) dX5_length_59 (fun H locs hP hS => ?_)
              obtain ⟨en2, he2⟩ : ∃ z, z = va_up ew40 54 (.inl (cA 0, 800, .inl (upd (fun k => xI (F k)) ((200 * b1) + K) (xI 0)))) := ⟨_, rfl⟩
              have hP : va_P D vwCl (xw n ad en2) H := by rw [he2, show (200 * b1) + K = (Int.toNat ((200 * (b1 : Int)) + (K : Int))) by omega]; exact hP
              have hM : MW cA ad en2 (mO (sp_up F ((200 * b1) + K) 0) M.builtMany M.told M.toldMany M.row M.rowMany M.figures M.partText M.partFrom M.partMany M.parts M.cut M.cutMany M.isCut M.cutGives M.cutAt M.h) := by rw [he2]; exact hM.u_built ((200 * b1) + K) 0
              have ho : xO 53 68 en en2 := by rw [he2]; exact ho.up (by omega) (by omega)
              refine x_iinc (lv' := [(4, .int (xI ((K : Int) + 1))), (0, .ref (ad 53)), (1, .int (xI (b1 : Int))), (2, .int (xI (k2 : Int))), (3, .int (xI ((S.1 b1).1 : Int)))]) (k := 4) hx hb dX5_length_60 hl rfl (by decide) rfl (fun ls hl => ?_)
              refine lv_goto (tgt := 40) hx hb dX5_length_63 (by decide) ?_
              exact ih (K + 1) _ en2 _ _ (by omega) (⟨fun j h1 h2 => by
      by_cases q : j = K
      · rw [q, sp_up_s]
      · rw [sp_up_n _ _ (by omega)]; exact hF.1 j h1 (by omega), fun j hj => by rw [sp_up_n _ _ (by omega)]; exact hF.2 j (by omega)⟩) (by omega) hM ho hP hS ls (lv_sub hl [1, 2, 3, 4, 0] rfl)
        exact L40 _ ((S.1 b1).1) M.built en _ _ (by omega) (⟨fun j h1 h2 => absurd h1 (by omega), fun j _ => rfl⟩) (Nat.lt_succ_self _) hM ho hP hS ls (lv_sub hl [2, 3, 4, 1, 0] rfl)
      · refine x_sipush hx hb dX5_length_26 (by decide +kernel) ?_
        exact xe_i hx hb hrt hlocks hP hS ((by unfold am_length; simp only [Int.toNat_natCast]; rw [sp_if_f (by omega), sp_if_f (by omega), sp_if_t (by omega)]; exact ⟨rfl, _, hM, hR, ho⟩)) dX5_length_29
    · refine x_sipush hx hb dX5_length_15 (by decide +kernel) ?_
      exact xe_i hx hb hrt hlocks hP hS ((by unfold am_length; simp only [Int.toNat_natCast]; rw [sp_if_f (by omega), sp_if_t (by omega)]; exact ⟨rfl, _, hM, hR, ho⟩)) dX5_length_18
  · refine lv_iload_n hx hb dX5_length_0 rfl (lv_at hl 1 rfl) ?_
    refine xt_i (As := [.int (xI z1)]) (rest := []) ⟨hx, hb, hml, hown, hts⟩ hl.1 (c_X5_isBuilder l z1 (by omega)) k_X5_isBuilder u_ml_RX5_70 rfl rfl (Nat.le_of_ble_eq_true rfl) ⟨Nat.le_of_ble_eq_true rfl, Nat.le_of_ble_eq_true rfl⟩ ⟨Nat.le_of_ble_eq_true rfl, Nat.le_of_ble_eq_true rfl⟩ dX5_length_1 ?_
    refine x_top (q1 := False) ⟨fun h => absurd h (by omega), False.elim⟩ ?_
    refine x_ifb_ne (tgt := 11) hx hb dX5_length_4 (by decide)  (fun c_4 => absurd c_4 id) (fun c_4 => ?_)
    refine x_sipush hx hb dX5_length_7 (by decide +kernel) ?_
    exact xe_i hx hb hrt hlocks hP hS ((by unfold am_length; rw [sp_if_t (by omega)]; exact ⟨rfl, _, hM, hR, ho⟩)) dX5_length_10

set_option maxRecDepth 20000 in
theorem c_X5_reverse (l : Launch) (D : va_G) (cA : Nat → ClassId) (n : Nat) (ad : Nat → Nat) (en : Nat → va_E) (sz : Nat) (hn : 68 ≤ n) {M : MO} (hM : MW cA ad en M) {S : xSt} (hW : WF S) (hR : MR S M) (z1 : Int) (hz1 : -2147483648 ≤ z1 ∧ z1 ≤ 2147483647) : Met l yX5_reverse (Cond.code yX5_reverse cX5_reverse 4 (some .int) :: xU) (xrm 2 45) (va_Pc [.ref (ad 53), .int (xI z1)] (xM D cA n ad en sz)) (va_Qi (fun r u => r = xI (am_reverse S z1).1 ∧ ∃ M' : MO, MW cA ad u M' ∧ MR (am_reverse S z1).2 M' ∧ xO 53 68 en u) (xE D n ad) (xA n ad sz)) 0 0 (xA n ad sz) := by
  refine xmet (by decide) (Nat.le_of_ble_eq_true rfl) (fun p e s mm args below meth c ls hx hb hrt hml hown hts hlocks hname hB hl => ?_)
  obtain ⟨⟨hP, hK, hN⟩, hsz, hDt⟩ := hB
  have hD : xD (xA n ad sz) n ad := xD_self hDt sz
  have hA : ∀ q : Nat, s.heap.size ≤ q → xA n ad sz q := fun q h => Or.inr (by rw [← hsz]; exact h)
  have hS : va_S (xA n ad sz) s.heap s.heap [] := va_S.rf
  have hown : s.vm.findClass RX5 = some mm.cls := hown
  have hl : lv_has ls 4 [(0, .ref (ad 53)), (1, .int (xI z1))] := hl
  have ho : xO 53 68 en en := xO.rf
  rcases Classical.em (0 ≤ z1 ∧ z1 < 4) with hx_z1 | hx_z1
  · obtain ⟨b1, rfl⟩ : ∃ q : Nat, z1 = (q : Int) := ⟨z1.toNat, by omega⟩
    have h_b1 : b1 < 4 := by omega
    have hm_b1 := (hW.1 b1 h_b1).1
    have hfb_b1 := (hW.1 b1 h_b1).2
    have hB_b1 := hR.1 b1 h_b1
    have hz_b1 := hB_b1.1
    refine lv_iload_n hx hb dX5_reverse_0 rfl (lv_at hl 1 rfl) ?_
    refine xt_i (As := [.int (xI (b1 : Int))]) (rest := []) ⟨hx, hb, hml, hown, hts⟩ hl.1 (c_X5_isBuilder l (b1 : Int) (by omega)) k_X5_isBuilder u_ml_RX5_70 rfl rfl (Nat.le_of_ble_eq_true rfl) ⟨Nat.le_of_ble_eq_true rfl, Nat.le_of_ble_eq_true rfl⟩ ⟨Nat.le_of_ble_eq_true rfl, Nat.le_of_ble_eq_true rfl⟩ dX5_reverse_1 ?_
    refine x_top (q1 := True) ⟨fun _ => trivial, fun _ => by omega⟩ ?_
    refine x_ifb_ne (tgt := 11) hx hb dX5_reverse_4 (by decide)  (fun c_4 => ?_) (fun c_4 => absurd trivial c_4)
    refine lv_aload_n hx hb dX5_reverse_11 rfl (lv_at hl 0 rfl) ?_
    refine x_get (T := TX5) (N := 17) hx hb hts uX5 hown hK hP (i := 53) (by omega) hM.1 rfl 1 (by decide) u_fl_RX5_13 rfl dX5_reverse_12 ?_
    refine lv_iload_n hx hb dX5_reverse_15 rfl (lv_at hl 1 rfl) ?_
    refine x_ild hx hb hK hP (i := 55) (by omega) hM.2.2.1 (x := ((S.1 b1).1 : Int)) (by omega) (congrArg xI hz_b1) dX5_reverse_16 ?_
    refine lv_istore_n (lv' := [(2, .int (xI ((S.1 b1).1 : Int))), (0, .ref (ad 53)), (1, .int (xI (b1 : Int)))]) hx hb dX5_reverse_17 rfl hl (by decide) rfl (fun ls hl => ?_)
    refine x_iconst hx hb dX5_reverse_18 ?_
    refine lv_istore_n (lv' := [(3, .int (xI 0)), (2, .int (xI ((S.1 b1).1 : Int))), (0, .ref (ad 53)), (1, .int (xI (b1 : Int)))]) hx hb dX5_reverse_19 rfl hl (by decide) rfl (fun ls hl => ?_)
    have L20 : ∀ (nn : Nat) (K : Nat) (F : Nat → Int) (ew20 : Nat → va_E) (H : Heap) (locs : List Loc), (K ≤ (S.1 b1).1) → (∀ k : Nat, k < K → F k = (S.1 b1).2 ((S.1 b1).1 - 1 - k)) → ((S.1 b1).1 - K) < nn → (MW cA ad ew20 (mO M.built M.builtMany M.told M.toldMany F M.rowMany M.figures M.partText M.partFrom M.partMany M.parts M.cut M.cutMany M.isCut M.cutGives M.cutAt M.h)) → (xO 53 68 en ew20) → va_P D vwCl (xw n ad ew20) H → va_S (xA n ad sz) s.heap H locs → ∀ ls : Array Slot, lv_has ls 4 [(0, .ref (ad 53)), (1, .int (xI (b1 : Int))), (2, .int (xI ((S.1 b1).1 : Int))), (3, .int (xI (K : Int)))] → W p l e (xrm 2 45) s mm args below meth c H locs 0 0 (MQ below (va_Qi (fun r u => r = xI (am_reverse S (b1 : Int)).1 ∧ ∃ M' : MO, MW cA ad u M' ∧ MR (am_reverse S (b1 : Int)).2 M' ∧ xO 53 68 en u) (xE D n ad) (xA n ad sz)) args s 0 0 (xA n ad sz)) (F0 mm 20 ls []) := by
      intro nn
      induction nn with
      | zero =>
        intro K F ew20 H locs hk8 hF hmm hM ho hP hS ls hl
        exact absurd hmm (Nat.not_lt_zero _)
      | succ nn ih =>
        intro K F ew20 H locs hk8 hF hmm hM ho hP hS ls hl
        refine lv_iload_n hx hb dX5_reverse_20 rfl (lv_at hl 3 rfl) ?_
        refine lv_iload_n hx hb dX5_reverse_21 rfl (lv_at hl 2 rfl) ?_
        refine x_icmp_ge (tgt := 53) hx hb dX5_reverse_22 (by decide) (by omega) (fun c_22 => ?_) (fun c_22 => ?_)
        · refine x_iconst hx hb dX5_reverse_53 ?_
          refine lv_istore_n (lv' := [(3, .int (xI 0)), (0, .ref (ad 53)), (1, .int (xI (b1 : Int))), (2, .int (xI ((S.1 b1).1 : Int)))]) hx hb dX5_reverse_54 rfl hl (by decide) rfl (fun ls hl => ?_)
          have L55 : ∀ (nn : Nat) (K : Nat) (F2 : Nat → Int) (ew55 : Nat → va_E) (H : Heap) (locs : List Loc), (K ≤ (S.1 b1).1) → ((∀ k : Nat, k < K → F2 (200 * b1 + k) = (S.1 b1).2 ((S.1 b1).1 - 1 - k)) ∧ ∀ j : Nat, j < 200 * b1 ∨ 200 * b1 + K ≤ j → F2 j = M.built j) → ((S.1 b1).1 - K) < nn → (MW cA ad ew55 (mO F2 M.builtMany M.told M.toldMany F M.rowMany M.figures M.partText M.partFrom M.partMany M.parts M.cut M.cutMany M.isCut M.cutGives M.cutAt M.h)) → (xO 53 68 en ew55) → va_P D vwCl (xw n ad ew55) H → va_S (xA n ad sz) s.heap H locs → ∀ ls : Array Slot, lv_has ls 4 [(0, .ref (ad 53)), (1, .int (xI (b1 : Int))), (2, .int (xI ((S.1 b1).1 : Int))), (3, .int (xI (K : Int)))] → W p l e (xrm 2 45) s mm args below meth c H locs 0 0 (MQ below (va_Qi (fun r u => r = xI (am_reverse S (b1 : Int)).1 ∧ ∃ M' : MO, MW cA ad u M' ∧ MR (am_reverse S (b1 : Int)).2 M' ∧ xO 53 68 en u) (xE D n ad) (xA n ad sz)) args s 0 0 (xA n ad sz)) (F0 mm 55 ls []) := by
            intro nn
            induction nn with
            | zero =>
              intro K F2 ew55 H locs hk8 hF2 hmm hM ho hP hS ls hl
              exact absurd hmm (Nat.not_lt_zero _)
            | succ nn ih =>
              intro K F2 ew55 H locs hk8 hF2 hmm hM ho hP hS ls hl
              refine lv_iload_n hx hb dX5_reverse_55 rfl (lv_at hl 3 rfl) ?_
              refine lv_iload_n hx hb dX5_reverse_56 rfl (lv_at hl 2 rfl) ?_
              refine x_icmp_ge (tgt := 84) hx hb dX5_reverse_57 (by decide) (by omega) (fun c_57 => ?_) (fun c_57 => ?_)
              · refine lv_iload_n hx hb dX5_reverse_84 rfl (lv_at hl 2 rfl) ?_
                exact xe_i hx hb hrt hlocks hP hS ((by unfold am_reverse; simp only [Int.toNat_natCast]; rw [sp_if_f (by omega)]; have q9 := hR.same hW h_b1 (f := fun q => (S.1 b1).2 ((S.1 b1).1 - 1 - q)) (B' := F2) (fun k hk => hF2.1 k (by omega)) (fun j hj => hF2.2 j (by omega)); exact ⟨rfl, _, hM, q9, ho⟩)) dX5_reverse_85
              · refine lv_aload_n hx hb dX5_reverse_60 rfl (lv_at hl 0 rfl) ?_
                refine x_get (T := TX5) (N := 17) hx hb hts uX5 hown hK hP (i := 53) (by omega) (show ew55 53 = .inr (5, [.ref (ad 54), .ref (ad 55), .ref (ad 56), .ref (ad 57), .ref (ad 58), .int (xI M.rowMany), .ref (ad 59), .ref (ad 60), .ref (ad 61), .ref (ad 62), .int (xI M.parts), .ref (ad 63), .ref (ad 64), .ref (ad 65), .ref (ad 66), .ref (ad 67), .long M.h]) from hM.1) rfl 0 (by decide) u_fl_RX5_7 rfl dX5_reverse_61 ?_
                refine x_sipush hx hb dX5_reverse_64 (by decide +kernel) ?_
                refine lv_iload_n hx hb dX5_reverse_67 rfl (lv_at hl 1 rfl) ?_
                refine x_imul hx hb dX5_reverse_68 ?_
                refine lv_iload_n hx hb dX5_reverse_69 rfl (lv_at hl 3 rfl) ?_
                refine x_iadd hx hb dX5_reverse_70 ?_
                refine lv_aload_n hx hb dX5_reverse_71 rfl (lv_at hl 0 rfl) ?_
                refine x_get (T := TX5) (N := 17) hx hb hts uX5 hown hK hP (i := 53) (by omega) (show ew55 53 = .inr (5, [.ref (ad 54), .ref (ad 55), .ref (ad 56), .ref (ad 57), .ref (ad 58), .int (xI M.rowMany), .ref (ad 59), .ref (ad 60), .ref (ad 61), .ref (ad 62), .int (xI M.parts), .ref (ad 63), .ref (ad 64), .ref (ad 65), .ref (ad 66), .ref (ad 67), .long M.h]) from hM.1) rfl 4 (by decide) u_fl_RX5_22 rfl dX5_reverse_72 ?_
                refine lv_iload_n hx hb dX5_reverse_75 rfl (lv_at hl 3 rfl) ?_
                refine x_ild hx hb hK hP (i := 58) (by omega) hM.2.2.2.2.2.1 (x := F K) (by omega) (rfl) dX5_reverse_76 ?_
                refine x_ist hx hb hK hP hD hS (i := 54) (by omega) hM.2.1 (by omega) dX5_reverse_77 (fun H locs hP hS => ?_)
                obtain ⟨en1, he1⟩ : ∃ z, z = va_up ew55 54 (.inl (cA 0, 800, .inl (upd (fun k => xI (F2 k)) ((200 * b1) + K) (xI (F K))))) := ⟨_, rfl⟩
                have hP : va_P D vwCl (xw n ad en1) H := by rw [he1, show (200 * b1) + K = (Int.toNat ((200 * (b1 : Int)) + (K : Int))) by omega]; exact hP
                have hM : MW cA ad en1 (mO (sp_up F2 ((200 * b1) + K) (F K)) M.builtMany M.told M.toldMany F M.rowMany M.figures M.partText M.partFrom M.partMany M.parts M.cut M.cutMany M.isCut M.cutGives M.cutAt M.h) := by rw [he1]; exact hM.u_built ((200 * b1) + K) (F K)
                have ho : xO 53 68 en en1 := by rw [he1]; exact ho.up (by omega) (by omega)
                refine x_iinc (lv' := [(3, .int (xI ((K : Int) + 1))), (0, .ref (ad 53)), (1, .int (xI (b1 : Int))), (2, .int (xI ((S.1 b1).1 : Int)))]) (k := 3) hx hb dX5_reverse_78 hl rfl (by decide) rfl (fun ls hl => ?_)
                refine lv_goto (tgt := 55) hx hb dX5_reverse_81 (by decide) ?_
                exact ih (K + 1) _ en1 _ _ (by omega) (⟨fun k hk => by
      by_cases q : k = K
      · rw [q, sp_up_s]; exact hF K (by omega)
      · rw [sp_up_n _ _ (by omega)]; exact hF2.1 k (by omega), fun j hj => by rw [sp_up_n _ _ (by omega)]; exact hF2.2 j (by omega)⟩) (by omega) hM ho hP hS ls (lv_sub hl [1, 2, 3, 0] rfl)
          exact L55 _ 0 M.built ew20 _ _ (Nat.zero_le _) (⟨fun k hk => absurd hk (Nat.not_lt_zero _), fun j _ => rfl⟩) (Nat.lt_succ_self _) hM ho hP hS ls (lv_sub hl [1, 2, 3, 0] rfl)
        · refine lv_aload_n hx hb dX5_reverse_25 rfl (lv_at hl 0 rfl) ?_
          refine x_get (T := TX5) (N := 17) hx hb hts uX5 hown hK hP (i := 53) (by omega) (show ew20 53 = .inr (5, [.ref (ad 54), .ref (ad 55), .ref (ad 56), .ref (ad 57), .ref (ad 58), .int (xI M.rowMany), .ref (ad 59), .ref (ad 60), .ref (ad 61), .ref (ad 62), .int (xI M.parts), .ref (ad 63), .ref (ad 64), .ref (ad 65), .ref (ad 66), .ref (ad 67), .long M.h]) from hM.1) rfl 4 (by decide) u_fl_RX5_22 rfl dX5_reverse_26 ?_
          refine lv_iload_n hx hb dX5_reverse_29 rfl (lv_at hl 3 rfl) ?_
          refine lv_aload_n hx hb dX5_reverse_30 rfl (lv_at hl 0 rfl) ?_
          refine x_get (T := TX5) (N := 17) hx hb hts uX5 hown hK hP (i := 53) (by omega) (show ew20 53 = .inr (5, [.ref (ad 54), .ref (ad 55), .ref (ad 56), .ref (ad 57), .ref (ad 58), .int (xI M.rowMany), .ref (ad 59), .ref (ad 60), .ref (ad 61), .ref (ad 62), .int (xI M.parts), .ref (ad 63), .ref (ad 64), .ref (ad 65), .ref (ad 66), .ref (ad 67), .long M.h]) from hM.1) rfl 0 (by decide) u_fl_RX5_7 rfl dX5_reverse_31 ?_
          refine x_sipush hx hb dX5_reverse_34 (by decide +kernel) ?_
          refine lv_iload_n hx hb dX5_reverse_37 rfl (lv_at hl 1 rfl) ?_
          refine x_imul hx hb dX5_reverse_38 ?_
          refine lv_iload_n hx hb dX5_reverse_39 rfl (lv_at hl 2 rfl) ?_
          refine x_iadd hx hb dX5_reverse_40 ?_
          refine x_iconst hx hb dX5_reverse_41 ?_
          refine x_isub hx hb dX5_reverse_42 ?_
          refine lv_iload_n hx hb dX5_reverse_43 rfl (lv_at hl 3 rfl) ?_
          refine x_isub hx hb dX5_reverse_44 ?_
          refine x_ild hx hb hK hP (i := 54) (by omega) hM.2.1 (x := M.built (Int.toNat ((((200 * (b1 : Int)) + ((S.1 b1).1 : Int)) - 1) - (K : Int)))) (by omega) (rfl) dX5_reverse_45 ?_
          refine x_to ((S.1 b1).2 ((S.1 b1).1 - 1 - K)) (by rw [show Int.toNat (200 * (b1 : Int) + ((S.1 b1).1 : Int) - 1 - (K : Int)) = 200 * b1 + ((S.1 b1).1 - 1 - K) by omega]; exact hB_b1.2 _ (by omega)) ?_
          refine x_ist hx hb hK hP hD hS (i := 58) (by omega) hM.2.2.2.2.2.1 (by omega) dX5_reverse_46 (fun H locs hP hS => ?_)
          obtain ⟨en2, he2⟩ : ∃ z, z = va_up ew20 58 (.inl (cA 0, 220, .inl (upd (fun k => xI (F k)) K (xI ((S.1 b1).2 ((S.1 b1).1 - 1 - K)))))) := ⟨_, rfl⟩
          have hP : va_P D vwCl (xw n ad en2) H := by rw [he2]; exact hP
          have hM : MW cA ad en2 (mO M.built M.builtMany M.told M.toldMany (sp_up F K ((S.1 b1).2 ((S.1 b1).1 - 1 - K))) M.rowMany M.figures M.partText M.partFrom M.partMany M.parts M.cut M.cutMany M.isCut M.cutGives M.cutAt M.h) := by rw [he2]; exact hM.u_row K ((S.1 b1).2 ((S.1 b1).1 - 1 - K))
          have ho : xO 53 68 en en2 := by rw [he2]; exact ho.up (by omega) (by omega)
          refine x_iinc (lv' := [(3, .int (xI ((K : Int) + 1))), (0, .ref (ad 53)), (1, .int (xI (b1 : Int))), (2, .int (xI ((S.1 b1).1 : Int)))]) (k := 3) hx hb dX5_reverse_47 hl rfl (by decide) rfl (fun ls hl => ?_)
          refine lv_goto (tgt := 20) hx hb dX5_reverse_50 (by decide) ?_
          exact ih (K + 1) _ en2 _ _ (by omega) (fun k hk => by
      by_cases q : k = K
      · rw [q, sp_up_s]
      · rw [sp_up_n _ _ (by omega)]; exact hF k (by omega)) (by omega) hM ho hP hS ls (lv_sub hl [1, 2, 3, 0] rfl)
    exact L20 _ 0 M.row en _ _ (Nat.zero_le _) (fun k hk => absurd hk (Nat.not_lt_zero _)) (Nat.lt_succ_self _) hM ho hP hS ls (lv_sub hl [2, 3, 1, 0] rfl)
  · refine lv_iload_n hx hb dX5_reverse_0 rfl (lv_at hl 1 rfl) ?_
    refine xt_i (As := [.int (xI z1)]) (rest := []) ⟨hx, hb, hml, hown, hts⟩ hl.1 (c_X5_isBuilder l z1 (by omega)) k_X5_isBuilder u_ml_RX5_70 rfl rfl (Nat.le_of_ble_eq_true rfl) ⟨Nat.le_of_ble_eq_true rfl, Nat.le_of_ble_eq_true rfl⟩ ⟨Nat.le_of_ble_eq_true rfl, Nat.le_of_ble_eq_true rfl⟩ dX5_reverse_1 ?_
    refine x_top (q1 := False) ⟨fun h => absurd h (by omega), False.elim⟩ ?_
    refine x_ifb_ne (tgt := 11) hx hb dX5_reverse_4 (by decide)  (fun c_4 => absurd c_4 id) (fun c_4 => ?_)
    refine x_sipush hx hb dX5_reverse_7 (by decide +kernel) ?_
    exact xe_i hx hb hrt hlocks hP hS ((by unfold am_reverse; rw [sp_if_t (by omega)]; exact ⟨rfl, _, hM, hR, ho⟩)) dX5_reverse_10

set_option maxRecDepth 20000 in
theorem c_X5_first (l : Launch) (D : va_G) (cA : Nat → ClassId) (n : Nat) (ad : Nat → Nat) (en : Nat → va_E) (sz : Nat) (hn : 68 ≤ n) {M : MO} (hM : MW cA ad en M) {S : xSt} (hW : WF S) (hR : MR S M) (z1 : Int) (hz1 : -2147483648 ≤ z1 ∧ z1 ≤ 2147483647) (z2 : Int) (hz2 : -2147483648 ≤ z2 ∧ z2 ≤ 2147483647) (z3 : Int) (hz3 : -2147483648 ≤ z3 ∧ z3 ≤ 2147483647) : Met l yX5_first (Cond.code yX5_first cX5_first 4 (some .int) :: xU) (xrm 3 77) (va_Pc [.ref (ad 53), .int (xI z1), .int (xI z2), .int (xI z3)] (xM D cA n ad en sz)) (va_Qi (fun r u => r = xI (am_first S z1 z2 z3) ∧ ∃ M' : MO, MW cA ad u M' ∧ MR S M' ∧ xO 53 68 en u) (xE D n ad) (xA n ad sz)) 0 0 (xA n ad sz) := by
  refine xmet (by decide) (Nat.le_of_ble_eq_true rfl) (fun p e s mm args below meth c ls hx hb hrt hml hown hts hlocks hname hB hl => ?_)
  obtain ⟨⟨hP, hK, hN⟩, hsz, hDt⟩ := hB
  have hD : xD (xA n ad sz) n ad := xD_self hDt sz
  have hA : ∀ q : Nat, s.heap.size ≤ q → xA n ad sz q := fun q h => Or.inr (by rw [← hsz]; exact h)
  have hS : va_S (xA n ad sz) s.heap s.heap [] := va_S.rf
  have hown : s.vm.findClass RX5 = some mm.cls := hown
  have hl : lv_has ls 4 [(0, .ref (ad 53)), (1, .int (xI z1)), (2, .int (xI z2)), (3, .int (xI z3))] := hl
  have ho : xO 53 68 en en := xO.rf
  rcases Classical.em (0 ≤ z1 ∧ z1 < 4) with hx_z1 | hx_z1
  · obtain ⟨b1, rfl⟩ : ∃ q : Nat, z1 = (q : Int) := ⟨z1.toNat, by omega⟩
    have h_b1 : b1 < 4 := by omega
    rcases Classical.em (0 ≤ z2 ∧ z2 < 8) with hx_z2 | hx_z2
    · obtain ⟨t2, rfl⟩ : ∃ q : Nat, z2 = (q : Int) := ⟨z2.toNat, by omega⟩
      have h_t2 : t2 < 8 := by omega
      rcases hS_t2 : S.2.1 t2 with _ | r_t2
      · have hm_b1 := (hW.1 b1 h_b1).1
        have hfb_b1 := (hW.1 b1 h_b1).2
        have hB_b1 := hR.1 b1 h_b1
        have hz_b1 := hB_b1.1
        have hz_t2 : M.toldMany t2 = -1 := by have q := hR.2.1 t2 h_t2; rw [hS_t2] at q; exact q
        refine lv_iload_n hx hb dX5_first_0 rfl (lv_at hl 1 rfl) ?_
        refine xt_i (As := [.int (xI (b1 : Int))]) (rest := []) ⟨hx, hb, hml, hown, hts⟩ hl.1 (c_X5_isBuilder l (b1 : Int) (by omega)) k_X5_isBuilder u_ml_RX5_70 rfl rfl (Nat.le_of_ble_eq_true rfl) ⟨Nat.le_of_ble_eq_true rfl, Nat.le_of_ble_eq_true rfl⟩ ⟨Nat.le_of_ble_eq_true rfl, Nat.le_of_ble_eq_true rfl⟩ dX5_first_1 ?_
        refine x_top (q1 := True) ⟨fun _ => trivial, fun _ => by omega⟩ ?_
        refine x_ifb_eq (tgt := 14) hx hb dX5_first_4 (by decide)  (fun c_4 => absurd trivial c_4) (fun c_4 => ?_)
        refine lv_iload_n hx hb dX5_first_7 rfl (lv_at hl 2 rfl) ?_
        refine xt_i (As := [.int (xI (t2 : Int))]) (rest := []) ⟨hx, hb, hml, hown, hts⟩ hl.1 (c_X5_isText l (t2 : Int) (by omega)) k_X5_isText u_ml_RX5_87 rfl rfl (Nat.le_of_ble_eq_true rfl) ⟨Nat.le_of_ble_eq_true rfl, Nat.le_of_ble_eq_true rfl⟩ ⟨Nat.le_of_ble_eq_true rfl, Nat.le_of_ble_eq_true rfl⟩ dX5_first_8 ?_
        refine x_top (q1 := True) ⟨fun _ => trivial, fun _ => by omega⟩ ?_
        refine x_ifb_ne (tgt := 18) hx hb dX5_first_11 (by decide)  (fun c_11 => ?_) (fun c_11 => absurd trivial c_11)
        refine lv_aload_n hx hb dX5_first_18 rfl (lv_at hl 0 rfl) ?_
        refine x_get (T := TX5) (N := 17) hx hb hts uX5 hown hK hP (i := 53) (by omega) hM.1 rfl 3 (by decide) u_fl_RX5_19 rfl dX5_first_19 ?_
        refine lv_iload_n hx hb dX5_first_22 rfl (lv_at hl 2 rfl) ?_
        refine x_ild hx hb hK hP (i := 57) (by omega) hM.2.2.2.2.1 (x := -1) (by omega) (congrArg xI hz_t2) dX5_first_23 ?_
        refine x_if_ge (tgt := 31) hx hb dX5_first_24 (by decide) (by omega) (fun c_24 => absurd c_24 (by omega)) (fun c_24 => ?_)
        refine x_sipush hx hb dX5_first_27 (by decide +kernel) ?_
        exact xe_i hx hb hrt hlocks hP hS ((by unfold am_first; simp only [Int.toNat_natCast]; rw [sp_if_f (by omega), sp_if_t (by simp [hS_t2])]; exact ⟨rfl, _, hM, hR, ho⟩)) dX5_first_30
      · have hm_b1 := (hW.1 b1 h_b1).1
        have hfb_b1 := (hW.1 b1 h_b1).2
        have hB_b1 := hR.1 b1 h_b1
        have hz_b1 := hB_b1.1
        have hT_t2 : M.toldMany t2 = (r_t2.1 : Int) ∧ ∀ k : Nat, k < r_t2.1 → M.told (200 * t2 + k) = r_t2.2 k := by have q := hR.2.1 t2 h_t2; rw [hS_t2] at q; exact q
        have hz_t2 := hT_t2.1
        have hm_t2 := (hW.2.1 t2 r_t2 h_t2 hS_t2).1
        have hfb_t2 := (hW.2.1 t2 r_t2 h_t2 hS_t2).2
        refine lv_iload_n hx hb dX5_first_0 rfl (lv_at hl 1 rfl) ?_
        refine xt_i (As := [.int (xI (b1 : Int))]) (rest := []) ⟨hx, hb, hml, hown, hts⟩ hl.1 (c_X5_isBuilder l (b1 : Int) (by omega)) k_X5_isBuilder u_ml_RX5_70 rfl rfl (Nat.le_of_ble_eq_true rfl) ⟨Nat.le_of_ble_eq_true rfl, Nat.le_of_ble_eq_true rfl⟩ ⟨Nat.le_of_ble_eq_true rfl, Nat.le_of_ble_eq_true rfl⟩ dX5_first_1 ?_
        refine x_top (q1 := True) ⟨fun _ => trivial, fun _ => by omega⟩ ?_
        refine x_ifb_eq (tgt := 14) hx hb dX5_first_4 (by decide)  (fun c_4 => absurd trivial c_4) (fun c_4 => ?_)
        refine lv_iload_n hx hb dX5_first_7 rfl (lv_at hl 2 rfl) ?_
        refine xt_i (As := [.int (xI (t2 : Int))]) (rest := []) ⟨hx, hb, hml, hown, hts⟩ hl.1 (c_X5_isText l (t2 : Int) (by omega)) k_X5_isText u_ml_RX5_87 rfl rfl (Nat.le_of_ble_eq_true rfl) ⟨Nat.le_of_ble_eq_true rfl, Nat.le_of_ble_eq_true rfl⟩ ⟨Nat.le_of_ble_eq_true rfl, Nat.le_of_ble_eq_true rfl⟩ dX5_first_8 ?_
        refine x_top (q1 := True) ⟨fun _ => trivial, fun _ => by omega⟩ ?_
        refine x_ifb_ne (tgt := 18) hx hb dX5_first_11 (by decide)  (fun c_11 => ?_) (fun c_11 => absurd trivial c_11)
        refine lv_aload_n hx hb dX5_first_18 rfl (lv_at hl 0 rfl) ?_
        refine x_get (T := TX5) (N := 17) hx hb hts uX5 hown hK hP (i := 53) (by omega) hM.1 rfl 3 (by decide) u_fl_RX5_19 rfl dX5_first_19 ?_
        refine lv_iload_n hx hb dX5_first_22 rfl (lv_at hl 2 rfl) ?_
        refine x_ild hx hb hK hP (i := 57) (by omega) hM.2.2.2.2.1 (x := (r_t2.1 : Int)) (by omega) (congrArg xI hz_t2) dX5_first_23 ?_
        refine x_if_ge (tgt := 31) hx hb dX5_first_24 (by decide) (by omega) (fun c_24 => ?_) (fun c_24 => absurd c_24 (by omega))
        refine lv_aload_n hx hb dX5_first_31 rfl (lv_at hl 0 rfl) ?_
        refine lv_iload_n hx hb dX5_first_32 rfl (lv_at hl 2 rfl) ?_
        refine xm_v (i := 53) (As := [.int (xI (t2 : Int))]) (rest := []) ⟨hx, hb, hml, hown, hts⟩ hl.1 (c_X5_layText_some l D cA n ad en _ hn hM t2 h_t2 (r := r_t2) hz_t2 hm_t2 hT_t2.2) k_X5_layText u_ml_RX5_90 hK hN hP (by omega) hM.1 rfl rfl rfl rfl (Nat.le_of_ble_eq_true rfl) ⟨Nat.le_of_ble_eq_true rfl, Nat.le_of_ble_eq_true rfl⟩ ⟨Nat.le_of_ble_eq_true rfl, Nat.le_of_ble_eq_true rfl⟩ dX5_first_33 hD hS hA (fun en1 H locs hp1 hP hS => ?_)
        obtain ⟨F9, hF9, hM, ho2⟩ := hp1
        have hM : MW cA ad en1 (mO M.built M.builtMany M.told M.toldMany F9 (r_t2.1 : Int) M.figures M.partText M.partFrom M.partMany M.parts M.cut M.cutMany M.isCut M.cutGives M.cutAt M.h) := hM
        have ho := ho.tr ho2
        refine lv_aload_n hx hb dX5_first_36 rfl (lv_at hl 0 rfl) ?_
        refine lv_aload_n hx hb dX5_first_37 rfl (lv_at hl 0 rfl) ?_
        refine x_get (T := TX5) (N := 17) hx hb hts uX5 hown hK hP (i := 53) (by omega) (show en1 53 = .inr (5, [.ref (ad 54), .ref (ad 55), .ref (ad 56), .ref (ad 57), .ref (ad 58), .int (xI (r_t2.1 : Int)), .ref (ad 59), .ref (ad 60), .ref (ad 61), .ref (ad 62), .int (xI M.parts), .ref (ad 63), .ref (ad 64), .ref (ad 65), .ref (ad 66), .ref (ad 67), .long M.h]) from hM.1) rfl 0 (by decide) u_fl_RX5_7 rfl dX5_first_38 ?_
        refine x_sipush hx hb dX5_first_41 (by decide +kernel) ?_
        refine lv_iload_n hx hb dX5_first_44 rfl (lv_at hl 1 rfl) ?_
        refine x_imul hx hb dX5_first_45 ?_
        refine x_to (((200 * b1 : Nat) : Int)) (by omega) ?_
        refine lv_aload_n hx hb dX5_first_46 rfl (lv_at hl 0 rfl) ?_
        refine x_get (T := TX5) (N := 17) hx hb hts uX5 hown hK hP (i := 53) (by omega) (show en1 53 = .inr (5, [.ref (ad 54), .ref (ad 55), .ref (ad 56), .ref (ad 57), .ref (ad 58), .int (xI (r_t2.1 : Int)), .ref (ad 59), .ref (ad 60), .ref (ad 61), .ref (ad 62), .int (xI M.parts), .ref (ad 63), .ref (ad 64), .ref (ad 65), .ref (ad 66), .ref (ad 67), .long M.h]) from hM.1) rfl 1 (by decide) u_fl_RX5_13 rfl dX5_first_47 ?_
        refine lv_iload_n hx hb dX5_first_50 rfl (lv_at hl 1 rfl) ?_
        refine x_ild hx hb hK hP (i := 55) (by omega) hM.2.2.1 (x := ((S.1 b1).1 : Int)) (by omega) (congrArg xI hz_b1) dX5_first_51 ?_
        refine lv_iload_n hx hb dX5_first_52 rfl (lv_at hl 3 rfl) ?_
        refine xv_i (i := 53) (As := [.ref (ad 54), .int (xI ((200 * b1 : Nat) : Int)), .int (xI ((S.1 b1).1 : Int)), .int (xI z3)]) (rest := []) ⟨hx, hb, hml, hown, hts⟩ hl.1 (c_X5_firstOf l D cA n ad en1 hn hM (q0 := 54) (L9 := 800) (g9 := M.built) (h := r_t2.2) (by omega) hM.2.1 (200 * b1) ((S.1 b1).1) (by omega) (by omega) hB_b1.2 hfb_b1 hm_b1 r_t2.1 (show (r_t2.1 : Int) = ((r_t2.1 : Nat) : Int) from rfl) (by omega) hF9 (fun k hk => hfb_t2 k hk) z3 (by omega)) k_X5_firstOf u_ml_RX5_111 hK hN hP (by omega) (show en1 53 = .inr (5, [.ref (ad 54), .ref (ad 55), .ref (ad 56), .ref (ad 57), .ref (ad 58), .int (xI (r_t2.1 : Int)), .ref (ad 59), .ref (ad 60), .ref (ad 61), .ref (ad 62), .int (xI M.parts), .ref (ad 63), .ref (ad 64), .ref (ad 65), .ref (ad 66), .ref (ad 67), .long M.h]) from hM.1) rfl rfl rfl rfl (Nat.le_of_ble_eq_true rfl) ⟨Nat.le_of_ble_eq_true rfl, Nat.le_of_ble_eq_true rfl⟩ ⟨Nat.le_of_ble_eq_true rfl, Nat.le_of_ble_eq_true rfl⟩ dX5_first_53 ?_
        exact xe_i hx hb hrt hlocks hP hS ((by unfold am_first; simp only [Int.toNat_natCast]; simp only [sp_get_s hS_t2]; rw [sp_if_f (by omega), sp_if_f (by simp [hS_t2])]; exact ⟨rfl, _, hM, hR, ho⟩)) dX5_first_56
    · have hm_b1 := (hW.1 b1 h_b1).1
      have hfb_b1 := (hW.1 b1 h_b1).2
      have hB_b1 := hR.1 b1 h_b1
      have hz_b1 := hB_b1.1
      refine lv_iload_n hx hb dX5_first_0 rfl (lv_at hl 1 rfl) ?_
      refine xt_i (As := [.int (xI (b1 : Int))]) (rest := []) ⟨hx, hb, hml, hown, hts⟩ hl.1 (c_X5_isBuilder l (b1 : Int) (by omega)) k_X5_isBuilder u_ml_RX5_70 rfl rfl (Nat.le_of_ble_eq_true rfl) ⟨Nat.le_of_ble_eq_true rfl, Nat.le_of_ble_eq_true rfl⟩ ⟨Nat.le_of_ble_eq_true rfl, Nat.le_of_ble_eq_true rfl⟩ dX5_first_1 ?_
      refine x_top (q1 := True) ⟨fun _ => trivial, fun _ => by omega⟩ ?_
      refine x_ifb_eq (tgt := 14) hx hb dX5_first_4 (by decide)  (fun c_4 => absurd trivial c_4) (fun c_4 => ?_)
      refine lv_iload_n hx hb dX5_first_7 rfl (lv_at hl 2 rfl) ?_
      refine xt_i (As := [.int (xI z2)]) (rest := []) ⟨hx, hb, hml, hown, hts⟩ hl.1 (c_X5_isText l z2 (by omega)) k_X5_isText u_ml_RX5_87 rfl rfl (Nat.le_of_ble_eq_true rfl) ⟨Nat.le_of_ble_eq_true rfl, Nat.le_of_ble_eq_true rfl⟩ ⟨Nat.le_of_ble_eq_true rfl, Nat.le_of_ble_eq_true rfl⟩ dX5_first_8 ?_
      refine x_top (q1 := False) ⟨fun h => absurd h (by omega), False.elim⟩ ?_
      refine x_ifb_ne (tgt := 18) hx hb dX5_first_11 (by decide)  (fun c_11 => absurd c_11 id) (fun c_11 => ?_)
      refine x_sipush hx hb dX5_first_14 (by decide +kernel) ?_
      exact xe_i hx hb hrt hlocks hP hS ((by unfold am_first; simp only [Int.toNat_natCast]; rw [sp_if_t (by omega)]; exact ⟨rfl, _, hM, hR, ho⟩)) dX5_first_17
  · rcases Classical.em (0 ≤ z2 ∧ z2 < 8) with hx_z2 | hx_z2
    · obtain ⟨t2, rfl⟩ : ∃ q : Nat, z2 = (q : Int) := ⟨z2.toNat, by omega⟩
      have h_t2 : t2 < 8 := by omega
      rcases hS_t2 : S.2.1 t2 with _ | r_t2
      · have hz_t2 : M.toldMany t2 = -1 := by have q := hR.2.1 t2 h_t2; rw [hS_t2] at q; exact q
        refine lv_iload_n hx hb dX5_first_0 rfl (lv_at hl 1 rfl) ?_
        refine xt_i (As := [.int (xI z1)]) (rest := []) ⟨hx, hb, hml, hown, hts⟩ hl.1 (c_X5_isBuilder l z1 (by omega)) k_X5_isBuilder u_ml_RX5_70 rfl rfl (Nat.le_of_ble_eq_true rfl) ⟨Nat.le_of_ble_eq_true rfl, Nat.le_of_ble_eq_true rfl⟩ ⟨Nat.le_of_ble_eq_true rfl, Nat.le_of_ble_eq_true rfl⟩ dX5_first_1 ?_
        refine x_top (q1 := False) ⟨fun h => absurd h (by omega), False.elim⟩ ?_
        refine x_ifb_eq (tgt := 14) hx hb dX5_first_4 (by decide)  (fun c_4 => ?_) (fun c_4 => absurd c_4 id)
        refine x_sipush hx hb dX5_first_14 (by decide +kernel) ?_
        exact xe_i hx hb hrt hlocks hP hS ((by unfold am_first; simp only [Int.toNat_natCast]; rw [sp_if_t (by omega)]; exact ⟨rfl, _, hM, hR, ho⟩)) dX5_first_17
      · have hT_t2 : M.toldMany t2 = (r_t2.1 : Int) ∧ ∀ k : Nat, k < r_t2.1 → M.told (200 * t2 + k) = r_t2.2 k := by have q := hR.2.1 t2 h_t2; rw [hS_t2] at q; exact q
        have hz_t2 := hT_t2.1
        have hm_t2 := (hW.2.1 t2 r_t2 h_t2 hS_t2).1
        have hfb_t2 := (hW.2.1 t2 r_t2 h_t2 hS_t2).2
        refine lv_iload_n hx hb dX5_first_0 rfl (lv_at hl 1 rfl) ?_
        refine xt_i (As := [.int (xI z1)]) (rest := []) ⟨hx, hb, hml, hown, hts⟩ hl.1 (c_X5_isBuilder l z1 (by omega)) k_X5_isBuilder u_ml_RX5_70 rfl rfl (Nat.le_of_ble_eq_true rfl) ⟨Nat.le_of_ble_eq_true rfl, Nat.le_of_ble_eq_true rfl⟩ ⟨Nat.le_of_ble_eq_true rfl, Nat.le_of_ble_eq_true rfl⟩ dX5_first_1 ?_
        refine x_top (q1 := False) ⟨fun h => absurd h (by omega), False.elim⟩ ?_
        refine x_ifb_eq (tgt := 14) hx hb dX5_first_4 (by decide)  (fun c_4 => ?_) (fun c_4 => absurd c_4 id)
        refine x_sipush hx hb dX5_first_14 (by decide +kernel) ?_
        exact xe_i hx hb hrt hlocks hP hS ((by unfold am_first; simp only [Int.toNat_natCast]; simp only [sp_get_s hS_t2]; rw [sp_if_t (by omega)]; exact ⟨rfl, _, hM, hR, ho⟩)) dX5_first_17
    · refine lv_iload_n hx hb dX5_first_0 rfl (lv_at hl 1 rfl) ?_
      refine xt_i (As := [.int (xI z1)]) (rest := []) ⟨hx, hb, hml, hown, hts⟩ hl.1 (c_X5_isBuilder l z1 (by omega)) k_X5_isBuilder u_ml_RX5_70 rfl rfl (Nat.le_of_ble_eq_true rfl) ⟨Nat.le_of_ble_eq_true rfl, Nat.le_of_ble_eq_true rfl⟩ ⟨Nat.le_of_ble_eq_true rfl, Nat.le_of_ble_eq_true rfl⟩ dX5_first_1 ?_
      refine x_top (q1 := False) ⟨fun h => absurd h (by omega), False.elim⟩ ?_
      refine x_ifb_eq (tgt := 14) hx hb dX5_first_4 (by decide)  (fun c_4 => ?_) (fun c_4 => absurd c_4 id)
      refine x_sipush hx hb dX5_first_14 (by decide +kernel) ?_
      exact xe_i hx hb hrt hlocks hP hS ((by unfold am_first; rw [sp_if_t (by omega)]; exact ⟨rfl, _, hM, hR, ho⟩)) dX5_first_17

set_option maxRecDepth 20000 in
theorem c_X5_last (l : Launch) (D : va_G) (cA : Nat → ClassId) (n : Nat) (ad : Nat → Nat) (en : Nat → va_E) (sz : Nat) (hn : 68 ≤ n) {M : MO} (hM : MW cA ad en M) {S : xSt} (hW : WF S) (hR : MR S M) (z1 : Int) (hz1 : -2147483648 ≤ z1 ∧ z1 ≤ 2147483647) (z2 : Int) (hz2 : -2147483648 ≤ z2 ∧ z2 ≤ 2147483647) (z3 : Int) (hz3 : -2147483648 ≤ z3 ∧ z3 ≤ 2147483647) : Met l yX5_last (Cond.code yX5_last cX5_last 4 (some .int) :: xU) (xrm 3 76) (va_Pc [.ref (ad 53), .int (xI z1), .int (xI z2), .int (xI z3)] (xM D cA n ad en sz)) (va_Qi (fun r u => r = xI (am_last S z1 z2 z3) ∧ ∃ M' : MO, MW cA ad u M' ∧ MR S M' ∧ xO 53 68 en u) (xE D n ad) (xA n ad sz)) 0 0 (xA n ad sz) := by
  refine xmet (by decide) (Nat.le_of_ble_eq_true rfl) (fun p e s mm args below meth c ls hx hb hrt hml hown hts hlocks hname hB hl => ?_)
  obtain ⟨⟨hP, hK, hN⟩, hsz, hDt⟩ := hB
  have hD : xD (xA n ad sz) n ad := xD_self hDt sz
  have hA : ∀ q : Nat, s.heap.size ≤ q → xA n ad sz q := fun q h => Or.inr (by rw [← hsz]; exact h)
  have hS : va_S (xA n ad sz) s.heap s.heap [] := va_S.rf
  have hown : s.vm.findClass RX5 = some mm.cls := hown
  have hl : lv_has ls 4 [(0, .ref (ad 53)), (1, .int (xI z1)), (2, .int (xI z2)), (3, .int (xI z3))] := hl
  have ho : xO 53 68 en en := xO.rf
  rcases Classical.em (0 ≤ z1 ∧ z1 < 4) with hx_z1 | hx_z1
  · obtain ⟨b1, rfl⟩ : ∃ q : Nat, z1 = (q : Int) := ⟨z1.toNat, by omega⟩
    have h_b1 : b1 < 4 := by omega
    rcases Classical.em (0 ≤ z2 ∧ z2 < 8) with hx_z2 | hx_z2
    · obtain ⟨t2, rfl⟩ : ∃ q : Nat, z2 = (q : Int) := ⟨z2.toNat, by omega⟩
      have h_t2 : t2 < 8 := by omega
      rcases hS_t2 : S.2.1 t2 with _ | r_t2
      · have hm_b1 := (hW.1 b1 h_b1).1
        have hfb_b1 := (hW.1 b1 h_b1).2
        have hB_b1 := hR.1 b1 h_b1
        have hz_b1 := hB_b1.1
        have hz_t2 : M.toldMany t2 = -1 := by have q := hR.2.1 t2 h_t2; rw [hS_t2] at q; exact q
        refine lv_iload_n hx hb dX5_last_0 rfl (lv_at hl 1 rfl) ?_
        refine xt_i (As := [.int (xI (b1 : Int))]) (rest := []) ⟨hx, hb, hml, hown, hts⟩ hl.1 (c_X5_isBuilder l (b1 : Int) (by omega)) k_X5_isBuilder u_ml_RX5_70 rfl rfl (Nat.le_of_ble_eq_true rfl) ⟨Nat.le_of_ble_eq_true rfl, Nat.le_of_ble_eq_true rfl⟩ ⟨Nat.le_of_ble_eq_true rfl, Nat.le_of_ble_eq_true rfl⟩ dX5_last_1 ?_
        refine x_top (q1 := True) ⟨fun _ => trivial, fun _ => by omega⟩ ?_
        refine x_ifb_eq (tgt := 14) hx hb dX5_last_4 (by decide)  (fun c_4 => absurd trivial c_4) (fun c_4 => ?_)
        refine lv_iload_n hx hb dX5_last_7 rfl (lv_at hl 2 rfl) ?_
        refine xt_i (As := [.int (xI (t2 : Int))]) (rest := []) ⟨hx, hb, hml, hown, hts⟩ hl.1 (c_X5_isText l (t2 : Int) (by omega)) k_X5_isText u_ml_RX5_87 rfl rfl (Nat.le_of_ble_eq_true rfl) ⟨Nat.le_of_ble_eq_true rfl, Nat.le_of_ble_eq_true rfl⟩ ⟨Nat.le_of_ble_eq_true rfl, Nat.le_of_ble_eq_true rfl⟩ dX5_last_8 ?_
        refine x_top (q1 := True) ⟨fun _ => trivial, fun _ => by omega⟩ ?_
        refine x_ifb_ne (tgt := 18) hx hb dX5_last_11 (by decide)  (fun c_11 => ?_) (fun c_11 => absurd trivial c_11)
        refine lv_aload_n hx hb dX5_last_18 rfl (lv_at hl 0 rfl) ?_
        refine x_get (T := TX5) (N := 17) hx hb hts uX5 hown hK hP (i := 53) (by omega) hM.1 rfl 3 (by decide) u_fl_RX5_19 rfl dX5_last_19 ?_
        refine lv_iload_n hx hb dX5_last_22 rfl (lv_at hl 2 rfl) ?_
        refine x_ild hx hb hK hP (i := 57) (by omega) hM.2.2.2.2.1 (x := -1) (by omega) (congrArg xI hz_t2) dX5_last_23 ?_
        refine x_if_ge (tgt := 31) hx hb dX5_last_24 (by decide) (by omega) (fun c_24 => absurd c_24 (by omega)) (fun c_24 => ?_)
        refine x_sipush hx hb dX5_last_27 (by decide +kernel) ?_
        exact xe_i hx hb hrt hlocks hP hS ((by unfold am_last; simp only [Int.toNat_natCast]; rw [sp_if_f (by omega), sp_if_t (by simp [hS_t2])]; exact ⟨rfl, _, hM, hR, ho⟩)) dX5_last_30
      · have hm_b1 := (hW.1 b1 h_b1).1
        have hfb_b1 := (hW.1 b1 h_b1).2
        have hB_b1 := hR.1 b1 h_b1
        have hz_b1 := hB_b1.1
        have hT_t2 : M.toldMany t2 = (r_t2.1 : Int) ∧ ∀ k : Nat, k < r_t2.1 → M.told (200 * t2 + k) = r_t2.2 k := by have q := hR.2.1 t2 h_t2; rw [hS_t2] at q; exact q
        have hz_t2 := hT_t2.1
        have hm_t2 := (hW.2.1 t2 r_t2 h_t2 hS_t2).1
        have hfb_t2 := (hW.2.1 t2 r_t2 h_t2 hS_t2).2
        refine lv_iload_n hx hb dX5_last_0 rfl (lv_at hl 1 rfl) ?_
        refine xt_i (As := [.int (xI (b1 : Int))]) (rest := []) ⟨hx, hb, hml, hown, hts⟩ hl.1 (c_X5_isBuilder l (b1 : Int) (by omega)) k_X5_isBuilder u_ml_RX5_70 rfl rfl (Nat.le_of_ble_eq_true rfl) ⟨Nat.le_of_ble_eq_true rfl, Nat.le_of_ble_eq_true rfl⟩ ⟨Nat.le_of_ble_eq_true rfl, Nat.le_of_ble_eq_true rfl⟩ dX5_last_1 ?_
        refine x_top (q1 := True) ⟨fun _ => trivial, fun _ => by omega⟩ ?_
        refine x_ifb_eq (tgt := 14) hx hb dX5_last_4 (by decide)  (fun c_4 => absurd trivial c_4) (fun c_4 => ?_)
        refine lv_iload_n hx hb dX5_last_7 rfl (lv_at hl 2 rfl) ?_
        refine xt_i (As := [.int (xI (t2 : Int))]) (rest := []) ⟨hx, hb, hml, hown, hts⟩ hl.1 (c_X5_isText l (t2 : Int) (by omega)) k_X5_isText u_ml_RX5_87 rfl rfl (Nat.le_of_ble_eq_true rfl) ⟨Nat.le_of_ble_eq_true rfl, Nat.le_of_ble_eq_true rfl⟩ ⟨Nat.le_of_ble_eq_true rfl, Nat.le_of_ble_eq_true rfl⟩ dX5_last_8 ?_
        refine x_top (q1 := True) ⟨fun _ => trivial, fun _ => by omega⟩ ?_
        refine x_ifb_ne (tgt := 18) hx hb dX5_last_11 (by decide)  (fun c_11 => ?_) (fun c_11 => absurd trivial c_11)
        refine lv_aload_n hx hb dX5_last_18 rfl (lv_at hl 0 rfl) ?_
        refine x_get (T := TX5) (N := 17) hx hb hts uX5 hown hK hP (i := 53) (by omega) hM.1 rfl 3 (by decide) u_fl_RX5_19 rfl dX5_last_19 ?_
        refine lv_iload_n hx hb dX5_last_22 rfl (lv_at hl 2 rfl) ?_
        refine x_ild hx hb hK hP (i := 57) (by omega) hM.2.2.2.2.1 (x := (r_t2.1 : Int)) (by omega) (congrArg xI hz_t2) dX5_last_23 ?_
        refine x_if_ge (tgt := 31) hx hb dX5_last_24 (by decide) (by omega) (fun c_24 => ?_) (fun c_24 => absurd c_24 (by omega))
        refine lv_aload_n hx hb dX5_last_31 rfl (lv_at hl 0 rfl) ?_
        refine lv_iload_n hx hb dX5_last_32 rfl (lv_at hl 2 rfl) ?_
        refine xm_v (i := 53) (As := [.int (xI (t2 : Int))]) (rest := []) ⟨hx, hb, hml, hown, hts⟩ hl.1 (c_X5_layText_some l D cA n ad en _ hn hM t2 h_t2 (r := r_t2) hz_t2 hm_t2 hT_t2.2) k_X5_layText u_ml_RX5_90 hK hN hP (by omega) hM.1 rfl rfl rfl rfl (Nat.le_of_ble_eq_true rfl) ⟨Nat.le_of_ble_eq_true rfl, Nat.le_of_ble_eq_true rfl⟩ ⟨Nat.le_of_ble_eq_true rfl, Nat.le_of_ble_eq_true rfl⟩ dX5_last_33 hD hS hA (fun en1 H locs hp1 hP hS => ?_)
        obtain ⟨F9, hF9, hM, ho2⟩ := hp1
        have hM : MW cA ad en1 (mO M.built M.builtMany M.told M.toldMany F9 (r_t2.1 : Int) M.figures M.partText M.partFrom M.partMany M.parts M.cut M.cutMany M.isCut M.cutGives M.cutAt M.h) := hM
        have ho := ho.tr ho2
        refine lv_aload_n hx hb dX5_last_36 rfl (lv_at hl 0 rfl) ?_
        refine lv_aload_n hx hb dX5_last_37 rfl (lv_at hl 0 rfl) ?_
        refine x_get (T := TX5) (N := 17) hx hb hts uX5 hown hK hP (i := 53) (by omega) (show en1 53 = .inr (5, [.ref (ad 54), .ref (ad 55), .ref (ad 56), .ref (ad 57), .ref (ad 58), .int (xI (r_t2.1 : Int)), .ref (ad 59), .ref (ad 60), .ref (ad 61), .ref (ad 62), .int (xI M.parts), .ref (ad 63), .ref (ad 64), .ref (ad 65), .ref (ad 66), .ref (ad 67), .long M.h]) from hM.1) rfl 0 (by decide) u_fl_RX5_7 rfl dX5_last_38 ?_
        refine x_sipush hx hb dX5_last_41 (by decide +kernel) ?_
        refine lv_iload_n hx hb dX5_last_44 rfl (lv_at hl 1 rfl) ?_
        refine x_imul hx hb dX5_last_45 ?_
        refine x_to (((200 * b1 : Nat) : Int)) (by omega) ?_
        refine lv_aload_n hx hb dX5_last_46 rfl (lv_at hl 0 rfl) ?_
        refine x_get (T := TX5) (N := 17) hx hb hts uX5 hown hK hP (i := 53) (by omega) (show en1 53 = .inr (5, [.ref (ad 54), .ref (ad 55), .ref (ad 56), .ref (ad 57), .ref (ad 58), .int (xI (r_t2.1 : Int)), .ref (ad 59), .ref (ad 60), .ref (ad 61), .ref (ad 62), .int (xI M.parts), .ref (ad 63), .ref (ad 64), .ref (ad 65), .ref (ad 66), .ref (ad 67), .long M.h]) from hM.1) rfl 1 (by decide) u_fl_RX5_13 rfl dX5_last_47 ?_
        refine lv_iload_n hx hb dX5_last_50 rfl (lv_at hl 1 rfl) ?_
        refine x_ild hx hb hK hP (i := 55) (by omega) hM.2.2.1 (x := ((S.1 b1).1 : Int)) (by omega) (congrArg xI hz_b1) dX5_last_51 ?_
        refine lv_iload_n hx hb dX5_last_52 rfl (lv_at hl 3 rfl) ?_
        refine xv_i (i := 53) (As := [.ref (ad 54), .int (xI ((200 * b1 : Nat) : Int)), .int (xI ((S.1 b1).1 : Int)), .int (xI z3)]) (rest := []) ⟨hx, hb, hml, hown, hts⟩ hl.1 (c_X5_lastOf l D cA n ad en1 hn hM (q0 := 54) (L9 := 800) (g9 := M.built) (h := r_t2.2) (by omega) hM.2.1 (200 * b1) ((S.1 b1).1) (by omega) (by omega) hB_b1.2 hfb_b1 hm_b1 r_t2.1 (show (r_t2.1 : Int) = ((r_t2.1 : Nat) : Int) from rfl) (by omega) hF9 (fun k hk => hfb_t2 k hk) z3 (by omega)) k_X5_lastOf u_ml_RX5_115 hK hN hP (by omega) (show en1 53 = .inr (5, [.ref (ad 54), .ref (ad 55), .ref (ad 56), .ref (ad 57), .ref (ad 58), .int (xI (r_t2.1 : Int)), .ref (ad 59), .ref (ad 60), .ref (ad 61), .ref (ad 62), .int (xI M.parts), .ref (ad 63), .ref (ad 64), .ref (ad 65), .ref (ad 66), .ref (ad 67), .long M.h]) from hM.1) rfl rfl rfl rfl (Nat.le_of_ble_eq_true rfl) ⟨Nat.le_of_ble_eq_true rfl, Nat.le_of_ble_eq_true rfl⟩ ⟨Nat.le_of_ble_eq_true rfl, Nat.le_of_ble_eq_true rfl⟩ dX5_last_53 ?_
        exact xe_i hx hb hrt hlocks hP hS ((by unfold am_last; simp only [Int.toNat_natCast]; simp only [sp_get_s hS_t2]; rw [sp_if_f (by omega), sp_if_f (by simp [hS_t2])]; exact ⟨rfl, _, hM, hR, ho⟩)) dX5_last_56
    · have hm_b1 := (hW.1 b1 h_b1).1
      have hfb_b1 := (hW.1 b1 h_b1).2
      have hB_b1 := hR.1 b1 h_b1
      have hz_b1 := hB_b1.1
      refine lv_iload_n hx hb dX5_last_0 rfl (lv_at hl 1 rfl) ?_
      refine xt_i (As := [.int (xI (b1 : Int))]) (rest := []) ⟨hx, hb, hml, hown, hts⟩ hl.1 (c_X5_isBuilder l (b1 : Int) (by omega)) k_X5_isBuilder u_ml_RX5_70 rfl rfl (Nat.le_of_ble_eq_true rfl) ⟨Nat.le_of_ble_eq_true rfl, Nat.le_of_ble_eq_true rfl⟩ ⟨Nat.le_of_ble_eq_true rfl, Nat.le_of_ble_eq_true rfl⟩ dX5_last_1 ?_
      refine x_top (q1 := True) ⟨fun _ => trivial, fun _ => by omega⟩ ?_
      refine x_ifb_eq (tgt := 14) hx hb dX5_last_4 (by decide)  (fun c_4 => absurd trivial c_4) (fun c_4 => ?_)
      refine lv_iload_n hx hb dX5_last_7 rfl (lv_at hl 2 rfl) ?_
      refine xt_i (As := [.int (xI z2)]) (rest := []) ⟨hx, hb, hml, hown, hts⟩ hl.1 (c_X5_isText l z2 (by omega)) k_X5_isText u_ml_RX5_87 rfl rfl (Nat.le_of_ble_eq_true rfl) ⟨Nat.le_of_ble_eq_true rfl, Nat.le_of_ble_eq_true rfl⟩ ⟨Nat.le_of_ble_eq_true rfl, Nat.le_of_ble_eq_true rfl⟩ dX5_last_8 ?_
      refine x_top (q1 := False) ⟨fun h => absurd h (by omega), False.elim⟩ ?_
      refine x_ifb_ne (tgt := 18) hx hb dX5_last_11 (by decide)  (fun c_11 => absurd c_11 id) (fun c_11 => ?_)
      refine x_sipush hx hb dX5_last_14 (by decide +kernel) ?_
      exact xe_i hx hb hrt hlocks hP hS ((by unfold am_last; simp only [Int.toNat_natCast]; rw [sp_if_t (by omega)]; exact ⟨rfl, _, hM, hR, ho⟩)) dX5_last_17
  · rcases Classical.em (0 ≤ z2 ∧ z2 < 8) with hx_z2 | hx_z2
    · obtain ⟨t2, rfl⟩ : ∃ q : Nat, z2 = (q : Int) := ⟨z2.toNat, by omega⟩
      have h_t2 : t2 < 8 := by omega
      rcases hS_t2 : S.2.1 t2 with _ | r_t2
      · have hz_t2 : M.toldMany t2 = -1 := by have q := hR.2.1 t2 h_t2; rw [hS_t2] at q; exact q
        refine lv_iload_n hx hb dX5_last_0 rfl (lv_at hl 1 rfl) ?_
        refine xt_i (As := [.int (xI z1)]) (rest := []) ⟨hx, hb, hml, hown, hts⟩ hl.1 (c_X5_isBuilder l z1 (by omega)) k_X5_isBuilder u_ml_RX5_70 rfl rfl (Nat.le_of_ble_eq_true rfl) ⟨Nat.le_of_ble_eq_true rfl, Nat.le_of_ble_eq_true rfl⟩ ⟨Nat.le_of_ble_eq_true rfl, Nat.le_of_ble_eq_true rfl⟩ dX5_last_1 ?_
        refine x_top (q1 := False) ⟨fun h => absurd h (by omega), False.elim⟩ ?_
        refine x_ifb_eq (tgt := 14) hx hb dX5_last_4 (by decide)  (fun c_4 => ?_) (fun c_4 => absurd c_4 id)
        refine x_sipush hx hb dX5_last_14 (by decide +kernel) ?_
        exact xe_i hx hb hrt hlocks hP hS ((by unfold am_last; simp only [Int.toNat_natCast]; rw [sp_if_t (by omega)]; exact ⟨rfl, _, hM, hR, ho⟩)) dX5_last_17
      · have hT_t2 : M.toldMany t2 = (r_t2.1 : Int) ∧ ∀ k : Nat, k < r_t2.1 → M.told (200 * t2 + k) = r_t2.2 k := by have q := hR.2.1 t2 h_t2; rw [hS_t2] at q; exact q
        have hz_t2 := hT_t2.1
        have hm_t2 := (hW.2.1 t2 r_t2 h_t2 hS_t2).1
        have hfb_t2 := (hW.2.1 t2 r_t2 h_t2 hS_t2).2
        refine lv_iload_n hx hb dX5_last_0 rfl (lv_at hl 1 rfl) ?_
        refine xt_i (As := [.int (xI z1)]) (rest := []) ⟨hx, hb, hml, hown, hts⟩ hl.1 (c_X5_isBuilder l z1 (by omega)) k_X5_isBuilder u_ml_RX5_70 rfl rfl (Nat.le_of_ble_eq_true rfl) ⟨Nat.le_of_ble_eq_true rfl, Nat.le_of_ble_eq_true rfl⟩ ⟨Nat.le_of_ble_eq_true rfl, Nat.le_of_ble_eq_true rfl⟩ dX5_last_1 ?_
        refine x_top (q1 := False) ⟨fun h => absurd h (by omega), False.elim⟩ ?_
        refine x_ifb_eq (tgt := 14) hx hb dX5_last_4 (by decide)  (fun c_4 => ?_) (fun c_4 => absurd c_4 id)
        refine x_sipush hx hb dX5_last_14 (by decide +kernel) ?_
        exact xe_i hx hb hrt hlocks hP hS ((by unfold am_last; simp only [Int.toNat_natCast]; simp only [sp_get_s hS_t2]; rw [sp_if_t (by omega)]; exact ⟨rfl, _, hM, hR, ho⟩)) dX5_last_17
    · refine lv_iload_n hx hb dX5_last_0 rfl (lv_at hl 1 rfl) ?_
      refine xt_i (As := [.int (xI z1)]) (rest := []) ⟨hx, hb, hml, hown, hts⟩ hl.1 (c_X5_isBuilder l z1 (by omega)) k_X5_isBuilder u_ml_RX5_70 rfl rfl (Nat.le_of_ble_eq_true rfl) ⟨Nat.le_of_ble_eq_true rfl, Nat.le_of_ble_eq_true rfl⟩ ⟨Nat.le_of_ble_eq_true rfl, Nat.le_of_ble_eq_true rfl⟩ dX5_last_1 ?_
      refine x_top (q1 := False) ⟨fun h => absurd h (by omega), False.elim⟩ ?_
      refine x_ifb_eq (tgt := 14) hx hb dX5_last_4 (by decide)  (fun c_4 => ?_) (fun c_4 => absurd c_4 id)
      refine x_sipush hx hb dX5_last_14 (by decide +kernel) ?_
      exact xe_i hx hb hrt hlocks hP hS ((by unfold am_last; rw [sp_if_t (by omega)]; exact ⟨rfl, _, hM, hR, ho⟩)) dX5_last_17

set_option maxRecDepth 20000 in
theorem c_X5_take (l : Launch) (D : va_G) (cA : Nat → ClassId) (n : Nat) (ad : Nat → Nat) (en : Nat → va_E) (sz : Nat) (hn : 68 ≤ n) {M : MO} (hM : MW cA ad en M) {S : xSt} (hW : WF S) (hR : MR S M) (z1 : Int) (hz1 : -2147483648 ≤ z1 ∧ z1 ≤ 2147483647) (z2 : Int) (hz2 : -2147483648 ≤ z2 ∧ z2 ≤ 2147483647) (z3 : Int) (hz3 : -2147483648 ≤ z3 ∧ z3 ≤ 2147483647) (z4 : Int) (hz4 : -2147483648 ≤ z4 ∧ z4 ≤ 2147483647) : Met l yX5_take (Cond.code yX5_take cX5_take 6 (some .int) :: xU) (xrm 2 45) (va_Pc [.ref (ad 53), .int (xI z1), .int (xI z2), .int (xI z3), .int (xI z4)] (xM D cA n ad en sz)) (va_Qi (fun r u => r = xI (am_take S z1 z2 z3 z4).1 ∧ ∃ M' : MO, MW cA ad u M' ∧ MR (am_take S z1 z2 z3 z4).2 M' ∧ xO 53 68 en u) (xE D n ad) (xA n ad sz)) 0 0 (xA n ad sz) := by
  refine xmet (by decide) (Nat.le_of_ble_eq_true rfl) (fun p e s mm args below meth c ls hx hb hrt hml hown hts hlocks hname hB hl => ?_)
  obtain ⟨⟨hP, hK, hN⟩, hsz, hDt⟩ := hB
  have hD : xD (xA n ad sz) n ad := xD_self hDt sz
  have hA : ∀ q : Nat, s.heap.size ≤ q → xA n ad sz q := fun q h => Or.inr (by rw [← hsz]; exact h)
  have hS : va_S (xA n ad sz) s.heap s.heap [] := va_S.rf
  have hown : s.vm.findClass RX5 = some mm.cls := hown
  have hl : lv_has ls 6 [(0, .ref (ad 53)), (1, .int (xI z1)), (2, .int (xI z2)), (3, .int (xI z3)), (4, .int (xI z4))] := hl
  have ho : xO 53 68 en en := xO.rf
  rcases Classical.em (0 ≤ z1 ∧ z1 < 4) with hx_z1 | hx_z1
  · obtain ⟨b1, rfl⟩ : ∃ q : Nat, z1 = (q : Int) := ⟨z1.toNat, by omega⟩
    have h_b1 : b1 < 4 := by omega
    rcases Classical.em (0 ≤ z4 ∧ z4 < 8) with hx_z4 | hx_z4
    · obtain ⟨t4, rfl⟩ : ∃ q : Nat, z4 = (q : Int) := ⟨z4.toNat, by omega⟩
      have h_t4 : t4 < 8 := by omega
      have hm_b1 := (hW.1 b1 h_b1).1
      have hfb_b1 := (hW.1 b1 h_b1).2
      have hB_b1 := hR.1 b1 h_b1
      have hz_b1 := hB_b1.1
      refine lv_iload_n hx hb dX5_take_0 rfl (lv_at hl 1 rfl) ?_
      refine xt_i (As := [.int (xI (b1 : Int))]) (rest := []) ⟨hx, hb, hml, hown, hts⟩ hl.1 (c_X5_isBuilder l (b1 : Int) (by omega)) k_X5_isBuilder u_ml_RX5_70 rfl rfl (Nat.le_of_ble_eq_true rfl) ⟨Nat.le_of_ble_eq_true rfl, Nat.le_of_ble_eq_true rfl⟩ ⟨Nat.le_of_ble_eq_true rfl, Nat.le_of_ble_eq_true rfl⟩ dX5_take_1 ?_
      refine x_top (q1 := True) ⟨fun _ => trivial, fun _ => by omega⟩ ?_
      refine x_ifb_eq (tgt := 15) hx hb dX5_take_4 (by decide)  (fun c_4 => absurd trivial c_4) (fun c_4 => ?_)
      refine lv_iload hx hb dX5_take_7 (lv_at hl 4 rfl) ?_
      refine xt_i (As := [.int (xI (t4 : Int))]) (rest := []) ⟨hx, hb, hml, hown, hts⟩ hl.1 (c_X5_isText l (t4 : Int) (by omega)) k_X5_isText u_ml_RX5_87 rfl rfl (Nat.le_of_ble_eq_true rfl) ⟨Nat.le_of_ble_eq_true rfl, Nat.le_of_ble_eq_true rfl⟩ ⟨Nat.le_of_ble_eq_true rfl, Nat.le_of_ble_eq_true rfl⟩ dX5_take_9 ?_
      refine x_top (q1 := True) ⟨fun _ => trivial, fun _ => by omega⟩ ?_
      refine x_ifb_ne (tgt := 19) hx hb dX5_take_12 (by decide)  (fun c_12 => ?_) (fun c_12 => absurd trivial c_12)
      refine lv_iload_n hx hb dX5_take_19 rfl (lv_at hl 2 rfl) ?_
      refine x_if_lt (tgt := 38) hx hb dX5_take_20 (by decide) (by omega) (fun c_20 => ?_) (fun c_20 => ?_)
      · refine x_sipush hx hb dX5_take_38 (by decide +kernel) ?_
        exact xe_i hx hb hrt hlocks hP hS ((by unfold am_take; simp only [Int.toNat_natCast]; rw [sp_if_f (by omega), sp_if_t (by omega)]; exact ⟨rfl, _, hM, hR, ho⟩)) dX5_take_41
      · refine lv_iload_n hx hb dX5_take_23 rfl (lv_at hl 3 rfl) ?_
        refine lv_aload_n hx hb dX5_take_24 rfl (lv_at hl 0 rfl) ?_
        refine x_get (T := TX5) (N := 17) hx hb hts uX5 hown hK hP (i := 53) (by omega) hM.1 rfl 1 (by decide) u_fl_RX5_13 rfl dX5_take_25 ?_
        refine lv_iload_n hx hb dX5_take_28 rfl (lv_at hl 1 rfl) ?_
        refine x_ild hx hb hK hP (i := 55) (by omega) hM.2.2.1 (x := ((S.1 b1).1 : Int)) (by omega) (congrArg xI hz_b1) dX5_take_29 ?_
        refine x_icmp_gt (tgt := 38) hx hb dX5_take_30 (by decide) (by omega) (fun c_30 => ?_) (fun c_30 => ?_)
        · refine x_sipush hx hb dX5_take_38 (by decide +kernel) ?_
          exact xe_i hx hb hrt hlocks hP hS ((by unfold am_take; simp only [Int.toNat_natCast]; rw [sp_if_f (by omega), sp_if_t (by omega)]; exact ⟨rfl, _, hM, hR, ho⟩)) dX5_take_41
        · refine lv_iload_n hx hb dX5_take_33 rfl (lv_at hl 2 rfl) ?_
          refine lv_iload_n hx hb dX5_take_34 rfl (lv_at hl 3 rfl) ?_
          refine x_icmp_le (tgt := 42) hx hb dX5_take_35 (by decide) (by omega) (fun c_35 => ?_) (fun c_35 => ?_)
          · obtain ⟨a2, hv_z2⟩ : ∃ q : Nat, z2 = (q : Int) := ⟨Int.toNat z2, by omega⟩
            obtain ⟨a3, hv_z3⟩ : ∃ q : Nat, z3 = (q : Int) := ⟨Int.toNat z3, by omega⟩
            have hl : lv_has ls 6 [(0, .ref (ad 53)), (1, .int (xI (b1 : Int))), (2, .int (xI (a2 : Int))), (3, .int (xI (a3 : Int))), (4, .int (xI (t4 : Int)))] := by rw [← hv_z2, ← hv_z3]; exact hl
            refine lv_aload_n hx hb dX5_take_42 rfl (lv_at hl 0 rfl) ?_
            refine lv_iload_n hx hb dX5_take_43 rfl (lv_at hl 3 rfl) ?_
            refine lv_iload_n hx hb dX5_take_44 rfl (lv_at hl 2 rfl) ?_
            refine x_isub hx hb dX5_take_45 ?_
            refine x_put (T := TX5) (N := 17) (ty := .int) hx hb hts uX5 tyX5 tyX5_ok nmX5 hown hK hP hD hS (i := 53) (by omega) hM.1 rfl 5 (by decide) u_fl_RX5_62 rfl (by decide +kernel) rfl rfl (by show 5 < 17; decide) dX5_take_46 (fun H locs hP hS => ?_)
            obtain ⟨en1, he1⟩ : ∃ z, z = va_up en 53 (.inr (5, [.ref (ad 54), .ref (ad 55), .ref (ad 56), .ref (ad 57), .ref (ad 58), .int (xI ((a3 : Int) - (a2 : Int))), .ref (ad 59), .ref (ad 60), .ref (ad 61), .ref (ad 62), .int (xI M.parts), .ref (ad 63), .ref (ad 64), .ref (ad 65), .ref (ad 66), .ref (ad 67), .long M.h])) := ⟨_, rfl⟩
            have hP : va_P D vwCl (xw n ad en1) H := by rw [he1]; exact hP
            have hM : MW cA ad en1 (mO M.built M.builtMany M.told M.toldMany M.row ((a3 : Int) - (a2 : Int)) M.figures M.partText M.partFrom M.partMany M.parts M.cut M.cutMany M.isCut M.cutGives M.cutAt M.h) := by rw [he1]; exact hM.s_rowMany ((a3 : Int) - (a2 : Int))
            have ho : xO 53 68 en en1 := by rw [he1]; exact ho.up (by omega) (by omega)
            refine lv_iload_n hx hb dX5_take_49 rfl (lv_at hl 2 rfl) ?_
            refine lv_istore (lv' := [(5, .int (xI (a2 : Int))), (0, .ref (ad 53)), (1, .int (xI (b1 : Int))), (2, .int (xI (a2 : Int))), (3, .int (xI (a3 : Int))), (4, .int (xI (t4 : Int)))]) hx hb dX5_take_50 hl (by decide) rfl (fun ls hl => ?_)
            have L52 : ∀ (nn : Nat) (K : Nat) (F : Nat → Int) (ew52 : Nat → va_E) (H : Heap) (locs : List Loc), (a2 ≤ K ∧ K ≤ a3) → (∀ k : Nat, k < K - a2 → F k = (S.1 b1).2 (a2 + k)) → (a3 - K) < nn → (MW cA ad ew52 (mO M.built M.builtMany M.told M.toldMany F ((a3 : Int) - (a2 : Int)) M.figures M.partText M.partFrom M.partMany M.parts M.cut M.cutMany M.isCut M.cutGives M.cutAt M.h)) → (xO 53 68 en ew52) → va_P D vwCl (xw n ad ew52) H → va_S (xA n ad sz) s.heap H locs → ∀ ls : Array Slot, lv_has ls 6 [(0, .ref (ad 53)), (1, .int (xI (b1 : Int))), (2, .int (xI (a2 : Int))), (3, .int (xI (a3 : Int))), (4, .int (xI (t4 : Int))), (5, .int (xI (K : Int)))] → W p l e (xrm 2 45) s mm args below meth c H locs 0 0 (MQ below (va_Qi (fun r u => r = xI (am_take S (b1 : Int) z2 z3 (t4 : Int)).1 ∧ ∃ M' : MO, MW cA ad u M' ∧ MR (am_take S (b1 : Int) z2 z3 (t4 : Int)).2 M' ∧ xO 53 68 en u) (xE D n ad) (xA n ad sz)) args s 0 0 (xA n ad sz)) (F0 mm 52 ls []) := by
              intro nn
              induction nn with
              | zero =>
                intro K F ew52 H locs hk8 hF hmm hM ho hP hS ls hl
                exact absurd hmm (Nat.not_lt_zero _)
              | succ nn ih =>
                intro K F ew52 H locs hk8 hF hmm hM ho hP hS ls hl
                refine lv_iload hx hb dX5_take_52 (lv_at hl 5 rfl) ?_
                refine lv_iload_n hx hb dX5_take_54 rfl (lv_at hl 3 rfl) ?_
                refine x_icmp_ge (tgt := 86) hx hb dX5_take_55 (by decide) (by omega) (fun c_55 => ?_) (fun c_55 => ?_)
                · refine lv_aload_n hx hb dX5_take_86 rfl (lv_at hl 0 rfl) ?_
                  refine lv_iload hx hb dX5_take_87 (lv_at hl 4 rfl) ?_
                  refine xm_i (i := 53) (As := [.int (xI (t4 : Int))]) (rest := []) ⟨hx, hb, hml, hown, hts⟩ hl.1 (c_X5_become l D cA n ad ew52 _ hn hM t4 h_t4 (a3 - a2) (show ((a3 : Int) - (a2 : Int)) = (((a3 - a2) : Nat) : Int) from by omega) (by omega)) k_X5_become u_ml_RX5_118 hK hN hP (by omega) (show ew52 53 = .inr (5, [.ref (ad 54), .ref (ad 55), .ref (ad 56), .ref (ad 57), .ref (ad 58), .int (xI ((a3 : Int) - (a2 : Int))), .ref (ad 59), .ref (ad 60), .ref (ad 61), .ref (ad 62), .int (xI M.parts), .ref (ad 63), .ref (ad 64), .ref (ad 65), .ref (ad 66), .ref (ad 67), .long M.h]) from hM.1) rfl rfl rfl rfl (Nat.le_of_ble_eq_true rfl) ⟨Nat.le_of_ble_eq_true rfl, Nat.le_of_ble_eq_true rfl⟩ ⟨Nat.le_of_ble_eq_true rfl, Nat.le_of_ble_eq_true rfl⟩ dX5_take_89 hD hS hA (fun r2 en2 H locs hp2 hP hS => ?_)
                  obtain ⟨hrv, T9, hT9, hU9, hM, ho2⟩ := hp2
                  have hrv : r2 = xI ((a3 : Int) - (a2 : Int)) := hrv
                  subst hrv
                  have hM : MW cA ad en2 (mO M.built M.builtMany T9 (sp_up M.toldMany t4 ((a3 : Int) - (a2 : Int))) F ((a3 : Int) - (a2 : Int)) M.figures M.partText M.partFrom M.partMany M.parts M.cut M.cutMany M.isCut M.cutGives M.cutAt M.h) := hM
                  have ho := ho.tr ho2
                  have hT9 : ∀ k : Nat, k < (a3 - a2) → T9 (200 * t4 + k) = F k := hT9
                  have hU9 : ∀ j : Nat, j < 200 * t4 ∨ 200 * t4 + 200 ≤ j → T9 j = M.told j := hU9
                  exact xe_i hx hb hrt hlocks hP hS ((by unfold am_take; simp only [Int.toNat_natCast]; rw [sp_if_f (by omega), sp_if_f (by omega)]; (try rw [show Int.toNat z2 = a2 by omega]); (try rw [show Int.toNat z3 = a3 by omega]); have q9 := hR.text hW h_t4 (o := some ((Int.toNat (z3 - z2), fun q => (S.1 b1).2 (a2 + q)) : xRow)) (T' := T9) (z := ((a3 : Int) - (a2 : Int))) ⟨by first | rfl | omega | (dsimp only; omega), fun k hk => (hT9 k (by first | exact hk | (dsimp only at hk; omega))).trans ((fun k hk => hF k (by omega)) k (by first | exact hk | (dsimp only at hk; omega)))⟩ hU9; exact ⟨congrArg xI (by omega), _, hM, q9, ho⟩)) dX5_take_92
                · refine lv_aload_n hx hb dX5_take_58 rfl (lv_at hl 0 rfl) ?_
                  refine x_get (T := TX5) (N := 17) hx hb hts uX5 hown hK hP (i := 53) (by omega) (show ew52 53 = .inr (5, [.ref (ad 54), .ref (ad 55), .ref (ad 56), .ref (ad 57), .ref (ad 58), .int (xI ((a3 : Int) - (a2 : Int))), .ref (ad 59), .ref (ad 60), .ref (ad 61), .ref (ad 62), .int (xI M.parts), .ref (ad 63), .ref (ad 64), .ref (ad 65), .ref (ad 66), .ref (ad 67), .long M.h]) from hM.1) rfl 4 (by decide) u_fl_RX5_22 rfl dX5_take_59 ?_
                  refine lv_iload hx hb dX5_take_62 (lv_at hl 5 rfl) ?_
                  refine lv_iload_n hx hb dX5_take_64 rfl (lv_at hl 2 rfl) ?_
                  refine x_isub hx hb dX5_take_65 ?_
                  refine lv_aload_n hx hb dX5_take_66 rfl (lv_at hl 0 rfl) ?_
                  refine x_get (T := TX5) (N := 17) hx hb hts uX5 hown hK hP (i := 53) (by omega) (show ew52 53 = .inr (5, [.ref (ad 54), .ref (ad 55), .ref (ad 56), .ref (ad 57), .ref (ad 58), .int (xI ((a3 : Int) - (a2 : Int))), .ref (ad 59), .ref (ad 60), .ref (ad 61), .ref (ad 62), .int (xI M.parts), .ref (ad 63), .ref (ad 64), .ref (ad 65), .ref (ad 66), .ref (ad 67), .long M.h]) from hM.1) rfl 0 (by decide) u_fl_RX5_7 rfl dX5_take_67 ?_
                  refine x_sipush hx hb dX5_take_70 (by decide +kernel) ?_
                  refine lv_iload_n hx hb dX5_take_73 rfl (lv_at hl 1 rfl) ?_
                  refine x_imul hx hb dX5_take_74 ?_
                  refine lv_iload hx hb dX5_take_75 (lv_at hl 5 rfl) ?_
                  refine x_iadd hx hb dX5_take_77 ?_
                  refine x_ild hx hb hK hP (i := 54) (by omega) hM.2.1 (x := M.built ((200 * b1) + K)) (by omega) (congrArg (fun q => xI (M.built q)) (show Int.toNat ((200 * (b1 : Int)) + (K : Int)) = (200 * b1) + K by omega)) dX5_take_78 ?_
                  refine x_to ((S.1 b1).2 K) (hB_b1.2 K (by omega)) ?_
                  refine x_ist hx hb hK hP hD hS (i := 58) (by omega) hM.2.2.2.2.2.1 (by omega) dX5_take_79 (fun H locs hP hS => ?_)
                  obtain ⟨en3, he3⟩ : ∃ z, z = va_up ew52 58 (.inl (cA 0, 220, .inl (upd (fun k => xI (F k)) (Int.toNat ((K : Int) - (a2 : Int))) (xI ((S.1 b1).2 K))))) := ⟨_, rfl⟩
                  have hP : va_P D vwCl (xw n ad en3) H := by rw [he3]; exact hP
                  have hM : MW cA ad en3 (mO M.built M.builtMany M.told M.toldMany (sp_up F (Int.toNat ((K : Int) - (a2 : Int))) ((S.1 b1).2 K)) ((a3 : Int) - (a2 : Int)) M.figures M.partText M.partFrom M.partMany M.parts M.cut M.cutMany M.isCut M.cutGives M.cutAt M.h) := by rw [he3]; exact hM.u_row (Int.toNat ((K : Int) - (a2 : Int))) ((S.1 b1).2 K)
                  have ho : xO 53 68 en en3 := by rw [he3]; exact ho.up (by omega) (by omega)
                  refine x_iinc (lv' := [(5, .int (xI ((K : Int) + 1))), (0, .ref (ad 53)), (1, .int (xI (b1 : Int))), (2, .int (xI (a2 : Int))), (3, .int (xI (a3 : Int))), (4, .int (xI (t4 : Int)))]) (k := 5) hx hb dX5_take_80 hl rfl (by decide) rfl (fun ls hl => ?_)
                  refine lv_goto (tgt := 52) hx hb dX5_take_83 (by decide) ?_
                  exact ih (K + 1) _ en3 _ _ (by omega) (fun k hk => by
      by_cases q : k = K - a2
      · rw [show Int.toNat ((K : Int) - (a2 : Int)) = k by omega, sp_up_s]; exact congrArg (S.1 b1).2 (by omega)
      · rw [sp_up_n _ _ (by omega)]; exact hF k (by omega)) (by omega) hM ho hP hS ls (lv_sub hl [1, 2, 3, 4, 5, 0] rfl)
            exact L52 _ a2 M.row en1 _ _ (by omega) (fun k hk => absurd hk (by omega)) (Nat.lt_succ_self _) hM ho hP hS ls (lv_sub hl [1, 2, 3, 4, 5, 0] rfl)
          · refine x_sipush hx hb dX5_take_38 (by decide +kernel) ?_
            exact xe_i hx hb hrt hlocks hP hS ((by unfold am_take; simp only [Int.toNat_natCast]; rw [sp_if_f (by omega), sp_if_t (by omega)]; exact ⟨rfl, _, hM, hR, ho⟩)) dX5_take_41
    · have hm_b1 := (hW.1 b1 h_b1).1
      have hfb_b1 := (hW.1 b1 h_b1).2
      have hB_b1 := hR.1 b1 h_b1
      have hz_b1 := hB_b1.1
      refine lv_iload_n hx hb dX5_take_0 rfl (lv_at hl 1 rfl) ?_
      refine xt_i (As := [.int (xI (b1 : Int))]) (rest := []) ⟨hx, hb, hml, hown, hts⟩ hl.1 (c_X5_isBuilder l (b1 : Int) (by omega)) k_X5_isBuilder u_ml_RX5_70 rfl rfl (Nat.le_of_ble_eq_true rfl) ⟨Nat.le_of_ble_eq_true rfl, Nat.le_of_ble_eq_true rfl⟩ ⟨Nat.le_of_ble_eq_true rfl, Nat.le_of_ble_eq_true rfl⟩ dX5_take_1 ?_
      refine x_top (q1 := True) ⟨fun _ => trivial, fun _ => by omega⟩ ?_
      refine x_ifb_eq (tgt := 15) hx hb dX5_take_4 (by decide)  (fun c_4 => absurd trivial c_4) (fun c_4 => ?_)
      refine lv_iload hx hb dX5_take_7 (lv_at hl 4 rfl) ?_
      refine xt_i (As := [.int (xI z4)]) (rest := []) ⟨hx, hb, hml, hown, hts⟩ hl.1 (c_X5_isText l z4 (by omega)) k_X5_isText u_ml_RX5_87 rfl rfl (Nat.le_of_ble_eq_true rfl) ⟨Nat.le_of_ble_eq_true rfl, Nat.le_of_ble_eq_true rfl⟩ ⟨Nat.le_of_ble_eq_true rfl, Nat.le_of_ble_eq_true rfl⟩ dX5_take_9 ?_
      refine x_top (q1 := False) ⟨fun h => absurd h (by omega), False.elim⟩ ?_
      refine x_ifb_ne (tgt := 19) hx hb dX5_take_12 (by decide)  (fun c_12 => absurd c_12 id) (fun c_12 => ?_)
      refine x_sipush hx hb dX5_take_15 (by decide +kernel) ?_
      exact xe_i hx hb hrt hlocks hP hS ((by unfold am_take; simp only [Int.toNat_natCast]; rw [sp_if_t (by omega)]; exact ⟨rfl, _, hM, hR, ho⟩)) dX5_take_18
  · rcases Classical.em (0 ≤ z4 ∧ z4 < 8) with hx_z4 | hx_z4
    · obtain ⟨t4, rfl⟩ : ∃ q : Nat, z4 = (q : Int) := ⟨z4.toNat, by omega⟩
      have h_t4 : t4 < 8 := by omega
      refine lv_iload_n hx hb dX5_take_0 rfl (lv_at hl 1 rfl) ?_
      refine xt_i (As := [.int (xI z1)]) (rest := []) ⟨hx, hb, hml, hown, hts⟩ hl.1 (c_X5_isBuilder l z1 (by omega)) k_X5_isBuilder u_ml_RX5_70 rfl rfl (Nat.le_of_ble_eq_true rfl) ⟨Nat.le_of_ble_eq_true rfl, Nat.le_of_ble_eq_true rfl⟩ ⟨Nat.le_of_ble_eq_true rfl, Nat.le_of_ble_eq_true rfl⟩ dX5_take_1 ?_
      refine x_top (q1 := False) ⟨fun h => absurd h (by omega), False.elim⟩ ?_
      refine x_ifb_eq (tgt := 15) hx hb dX5_take_4 (by decide)  (fun c_4 => ?_) (fun c_4 => absurd c_4 id)
      refine x_sipush hx hb dX5_take_15 (by decide +kernel) ?_
      exact xe_i hx hb hrt hlocks hP hS ((by unfold am_take; simp only [Int.toNat_natCast]; rw [sp_if_t (by omega)]; exact ⟨rfl, _, hM, hR, ho⟩)) dX5_take_18
    · refine lv_iload_n hx hb dX5_take_0 rfl (lv_at hl 1 rfl) ?_
      refine xt_i (As := [.int (xI z1)]) (rest := []) ⟨hx, hb, hml, hown, hts⟩ hl.1 (c_X5_isBuilder l z1 (by omega)) k_X5_isBuilder u_ml_RX5_70 rfl rfl (Nat.le_of_ble_eq_true rfl) ⟨Nat.le_of_ble_eq_true rfl, Nat.le_of_ble_eq_true rfl⟩ ⟨Nat.le_of_ble_eq_true rfl, Nat.le_of_ble_eq_true rfl⟩ dX5_take_1 ?_
      refine x_top (q1 := False) ⟨fun h => absurd h (by omega), False.elim⟩ ?_
      refine x_ifb_eq (tgt := 15) hx hb dX5_take_4 (by decide)  (fun c_4 => ?_) (fun c_4 => absurd c_4 id)
      refine x_sipush hx hb dX5_take_15 (by decide +kernel) ?_
      exact xe_i hx hb hrt hlocks hP hS ((by unfold am_take; rw [sp_if_t (by omega)]; exact ⟨rfl, _, hM, hR, ho⟩)) dX5_take_18

set_option maxRecDepth 20000 in
theorem c_X5_ahead (l : Launch) (D : va_G) (cA : Nat → ClassId) (n : Nat) (ad : Nat → Nat) (en : Nat → va_E) (hn : 68 ≤ n) {M : MO} (hM : MW cA ad en M) {S : xSt} (hW : WF S) (hR : MR S M) (z1 : Int) (hz1 : -2147483648 ≤ z1 ∧ z1 ≤ 2147483647) (z2 : Int) (hz2 : -2147483648 ≤ z2 ∧ z2 ≤ 2147483647) : Met l yX5_ahead (Cond.code yX5_ahead cX5_ahead 4 (some .int) :: xU) (xrm 2 45) (va_Pc [.ref (ad 53), .int (xI z1), .int (xI z2)] (xB D cA n ad en)) (vp_Si (fun z => z = xI (am_ahead S z1 z2))) 0 0 (fun _ => False) := by
  refine xmet (by decide) (Nat.le_of_ble_eq_true rfl) (fun p e s mm args below meth c ls hx hb hrt hml hown hts hlocks hname hB hl => ?_)
  obtain ⟨hP, hK, hN⟩ := hB
  have hl : lv_has ls 4 [(0, .ref (ad 53)), (1, .int (xI z1)), (2, .int (xI z2))] := hl
  rcases Classical.em (0 ≤ z1 ∧ z1 < 4) with hx_z1 | hx_z1
  · obtain ⟨b1, rfl⟩ : ∃ q : Nat, z1 = (q : Int) := ⟨z1.toNat, by omega⟩
    have h_b1 : b1 < 4 := by omega
    rcases Classical.em (0 ≤ z2 ∧ z2 < 4) with hx_z2 | hx_z2
    · obtain ⟨b2, rfl⟩ : ∃ q : Nat, z2 = (q : Int) := ⟨z2.toNat, by omega⟩
      have h_b2 : b2 < 4 := by omega
      have hm_b1 := (hW.1 b1 h_b1).1
      have hfb_b1 := (hW.1 b1 h_b1).2
      have hB_b1 := hR.1 b1 h_b1
      have hz_b1 := hB_b1.1
      have hm_b2 := (hW.1 b2 h_b2).1
      have hfb_b2 := (hW.1 b2 h_b2).2
      have hB_b2 := hR.1 b2 h_b2
      have hz_b2 := hB_b2.1
      refine lv_iload_n hx hb dX5_ahead_0 rfl (lv_at hl 1 rfl) ?_
      refine xt_i (As := [.int (xI (b1 : Int))]) (rest := []) ⟨hx, hb, hml, hown, hts⟩ hl.1 (c_X5_isBuilder l (b1 : Int) (by omega)) k_X5_isBuilder u_ml_RX5_70 rfl rfl (Nat.le_of_ble_eq_true rfl) ⟨Nat.le_of_ble_eq_true rfl, Nat.le_of_ble_eq_true rfl⟩ ⟨Nat.le_of_ble_eq_true rfl, Nat.le_of_ble_eq_true rfl⟩ dX5_ahead_1 ?_
      refine x_top (q1 := True) ⟨fun _ => trivial, fun _ => by omega⟩ ?_
      refine x_ifb_eq (tgt := 14) hx hb dX5_ahead_4 (by decide)  (fun c_4 => absurd trivial c_4) (fun c_4 => ?_)
      refine lv_iload_n hx hb dX5_ahead_7 rfl (lv_at hl 2 rfl) ?_
      refine xt_i (As := [.int (xI (b2 : Int))]) (rest := []) ⟨hx, hb, hml, hown, hts⟩ hl.1 (c_X5_isBuilder l (b2 : Int) (by omega)) k_X5_isBuilder u_ml_RX5_70 rfl rfl (Nat.le_of_ble_eq_true rfl) ⟨Nat.le_of_ble_eq_true rfl, Nat.le_of_ble_eq_true rfl⟩ ⟨Nat.le_of_ble_eq_true rfl, Nat.le_of_ble_eq_true rfl⟩ dX5_ahead_8 ?_
      refine x_top (q1 := True) ⟨fun _ => trivial, fun _ => by omega⟩ ?_
      refine x_ifb_ne (tgt := 18) hx hb dX5_ahead_11 (by decide)  (fun c_11 => ?_) (fun c_11 => absurd trivial c_11)
      refine lv_aload_n hx hb dX5_ahead_18 rfl (lv_at hl 0 rfl) ?_
      refine x_get (T := TX5) (N := 17) hx hb hts uX5 hown hK hP (i := 53) (by omega) hM.1 rfl 0 (by decide) u_fl_RX5_7 rfl dX5_ahead_19 ?_
      refine x_sipush hx hb dX5_ahead_22 (by decide +kernel) ?_
      refine lv_iload_n hx hb dX5_ahead_25 rfl (lv_at hl 1 rfl) ?_
      refine x_imul hx hb dX5_ahead_26 ?_
      refine x_to (((200 * b1 : Nat) : Int)) (by omega) ?_
      refine lv_aload_n hx hb dX5_ahead_27 rfl (lv_at hl 0 rfl) ?_
      refine x_get (T := TX5) (N := 17) hx hb hts uX5 hown hK hP (i := 53) (by omega) hM.1 rfl 1 (by decide) u_fl_RX5_13 rfl dX5_ahead_28 ?_
      refine lv_iload_n hx hb dX5_ahead_31 rfl (lv_at hl 1 rfl) ?_
      refine x_ild hx hb hK hP (i := 55) (by omega) hM.2.2.1 (x := ((S.1 b1).1 : Int)) (by omega) (congrArg xI hz_b1) dX5_ahead_32 ?_
      refine x_sipush hx hb dX5_ahead_33 (by decide +kernel) ?_
      refine lv_iload_n hx hb dX5_ahead_36 rfl (lv_at hl 2 rfl) ?_
      refine x_imul hx hb dX5_ahead_37 ?_
      refine x_to (((200 * b2 : Nat) : Int)) (by omega) ?_
      refine lv_aload_n hx hb dX5_ahead_38 rfl (lv_at hl 0 rfl) ?_
      refine x_get (T := TX5) (N := 17) hx hb hts uX5 hown hK hP (i := 53) (by omega) hM.1 rfl 1 (by decide) u_fl_RX5_13 rfl dX5_ahead_39 ?_
      refine lv_iload_n hx hb dX5_ahead_42 rfl (lv_at hl 2 rfl) ?_
      refine x_ild hx hb hK hP (i := 55) (by omega) hM.2.2.1 (x := ((S.1 b2).1 : Int)) (by omega) (congrArg xI hz_b2) dX5_ahead_43 ?_
      have hob := sp_ord_b hm_b1 hm_b2 hfb_b1 hfb_b2
      refine xs_i (As := [.ref (ad 54), .int (xI ((200 * b1 : Nat) : Int)), .int (xI ((S.1 b1).1 : Int)), .int (xI ((200 * b2 : Nat) : Int)), .int (xI ((S.1 b2).1 : Int))]) (rest := []) ⟨hx, hb, hml, hown, hts⟩ hl.1 (c_X5_orderOf l D cA n ad en hn (q0 := 54) (L9 := 800) (g9 := M.built) (by omega) hM.2.1 (200 * b1) ((S.1 b1).1) (200 * b2) ((S.1 b2).1) (by omega) (by omega) (by omega) hB_b1.2 hfb_b1 hB_b2.2 hfb_b2 hm_b1 hm_b2) k_X5_orderOf u_ml_RX5_121 rfl rfl (Nat.le_of_ble_eq_true rfl) ⟨Nat.le_of_ble_eq_true rfl, Nat.le_of_ble_eq_true rfl⟩ ⟨Nat.le_of_ble_eq_true rfl, Nat.le_of_ble_eq_true rfl⟩ dX5_ahead_44 hK hN hP ?_
      refine lv_istore_n (lv' := [(3, .int (xI (sp_ord ((S.1 b1).2) ((S.1 b2).2) (((S.1 b1).1 : Int) - ((S.1 b2).1 : Int)) 0 (min ((S.1 b1).1 : Int) ((S.1 b2).1 : Int))))), (0, .ref (ad 53)), (1, .int (xI (b1 : Int))), (2, .int (xI (b2 : Int)))]) hx hb dX5_ahead_47 rfl hl (by decide) rfl (fun ls hl => ?_)
      refine lv_iload_n hx hb dX5_ahead_48 rfl (lv_at hl 0 rfl) ?_
      refine x_if_le (tgt := 56) hx hb dX5_ahead_49 (by decide) (by omega) (fun c_49 => ?_) (fun c_49 => ?_)
      · refine lv_iload_n hx hb dX5_ahead_56 rfl (lv_at hl 0 rfl) ?_
        refine x_if_ge (tgt := 64) hx hb dX5_ahead_57 (by decide) (by omega) (fun c_57 => ?_) (fun c_57 => ?_)
        · refine x_iconst hx hb dX5_ahead_64 ?_
          exact xr_i hx hb hrt hlocks ((by unfold am_ahead; simp only [Int.toNat_natCast]; rw [sp_if_f (by omega)]; exact congrArg xI (by unfold sp_sg; omega))) dX5_ahead_65
        · refine x_iconst hx hb dX5_ahead_60 ?_
          refine lv_goto (tgt := 65) hx hb dX5_ahead_61 (by decide) ?_
          exact xr_i hx hb hrt hlocks ((by unfold am_ahead; simp only [Int.toNat_natCast]; rw [sp_if_f (by omega)]; exact congrArg xI (by unfold sp_sg; omega))) dX5_ahead_65
      · refine x_iconst hx hb dX5_ahead_52 ?_
        refine lv_goto (tgt := 65) hx hb dX5_ahead_53 (by decide) ?_
        exact xr_i hx hb hrt hlocks ((by unfold am_ahead; simp only [Int.toNat_natCast]; rw [sp_if_f (by omega)]; exact congrArg xI (by unfold sp_sg; omega))) dX5_ahead_65
    · have hm_b1 := (hW.1 b1 h_b1).1
      have hfb_b1 := (hW.1 b1 h_b1).2
      have hB_b1 := hR.1 b1 h_b1
      have hz_b1 := hB_b1.1
      refine lv_iload_n hx hb dX5_ahead_0 rfl (lv_at hl 1 rfl) ?_
      refine xt_i (As := [.int (xI (b1 : Int))]) (rest := []) ⟨hx, hb, hml, hown, hts⟩ hl.1 (c_X5_isBuilder l (b1 : Int) (by omega)) k_X5_isBuilder u_ml_RX5_70 rfl rfl (Nat.le_of_ble_eq_true rfl) ⟨Nat.le_of_ble_eq_true rfl, Nat.le_of_ble_eq_true rfl⟩ ⟨Nat.le_of_ble_eq_true rfl, Nat.le_of_ble_eq_true rfl⟩ dX5_ahead_1 ?_
      refine x_top (q1 := True) ⟨fun _ => trivial, fun _ => by omega⟩ ?_
      refine x_ifb_eq (tgt := 14) hx hb dX5_ahead_4 (by decide)  (fun c_4 => absurd trivial c_4) (fun c_4 => ?_)
      refine lv_iload_n hx hb dX5_ahead_7 rfl (lv_at hl 2 rfl) ?_
      refine xt_i (As := [.int (xI z2)]) (rest := []) ⟨hx, hb, hml, hown, hts⟩ hl.1 (c_X5_isBuilder l z2 (by omega)) k_X5_isBuilder u_ml_RX5_70 rfl rfl (Nat.le_of_ble_eq_true rfl) ⟨Nat.le_of_ble_eq_true rfl, Nat.le_of_ble_eq_true rfl⟩ ⟨Nat.le_of_ble_eq_true rfl, Nat.le_of_ble_eq_true rfl⟩ dX5_ahead_8 ?_
      refine x_top (q1 := False) ⟨fun h => absurd h (by omega), False.elim⟩ ?_
      refine x_ifb_ne (tgt := 18) hx hb dX5_ahead_11 (by decide)  (fun c_11 => absurd c_11 id) (fun c_11 => ?_)
      refine x_sipush hx hb dX5_ahead_14 (by decide +kernel) ?_
      exact xr_i hx hb hrt hlocks ((by unfold am_ahead; simp only [Int.toNat_natCast]; rw [sp_if_t (by omega)])) dX5_ahead_17
  · rcases Classical.em (0 ≤ z2 ∧ z2 < 4) with hx_z2 | hx_z2
    · obtain ⟨b2, rfl⟩ : ∃ q : Nat, z2 = (q : Int) := ⟨z2.toNat, by omega⟩
      have h_b2 : b2 < 4 := by omega
      have hm_b2 := (hW.1 b2 h_b2).1
      have hfb_b2 := (hW.1 b2 h_b2).2
      have hB_b2 := hR.1 b2 h_b2
      have hz_b2 := hB_b2.1
      refine lv_iload_n hx hb dX5_ahead_0 rfl (lv_at hl 1 rfl) ?_
      refine xt_i (As := [.int (xI z1)]) (rest := []) ⟨hx, hb, hml, hown, hts⟩ hl.1 (c_X5_isBuilder l z1 (by omega)) k_X5_isBuilder u_ml_RX5_70 rfl rfl (Nat.le_of_ble_eq_true rfl) ⟨Nat.le_of_ble_eq_true rfl, Nat.le_of_ble_eq_true rfl⟩ ⟨Nat.le_of_ble_eq_true rfl, Nat.le_of_ble_eq_true rfl⟩ dX5_ahead_1 ?_
      refine x_top (q1 := False) ⟨fun h => absurd h (by omega), False.elim⟩ ?_
      refine x_ifb_eq (tgt := 14) hx hb dX5_ahead_4 (by decide)  (fun c_4 => ?_) (fun c_4 => absurd c_4 id)
      refine x_sipush hx hb dX5_ahead_14 (by decide +kernel) ?_
      exact xr_i hx hb hrt hlocks ((by unfold am_ahead; simp only [Int.toNat_natCast]; rw [sp_if_t (by omega)])) dX5_ahead_17
    · refine lv_iload_n hx hb dX5_ahead_0 rfl (lv_at hl 1 rfl) ?_
      refine xt_i (As := [.int (xI z1)]) (rest := []) ⟨hx, hb, hml, hown, hts⟩ hl.1 (c_X5_isBuilder l z1 (by omega)) k_X5_isBuilder u_ml_RX5_70 rfl rfl (Nat.le_of_ble_eq_true rfl) ⟨Nat.le_of_ble_eq_true rfl, Nat.le_of_ble_eq_true rfl⟩ ⟨Nat.le_of_ble_eq_true rfl, Nat.le_of_ble_eq_true rfl⟩ dX5_ahead_1 ?_
      refine x_top (q1 := False) ⟨fun h => absurd h (by omega), False.elim⟩ ?_
      refine x_ifb_eq (tgt := 14) hx hb dX5_ahead_4 (by decide)  (fun c_4 => ?_) (fun c_4 => absurd c_4 id)
      refine x_sipush hx hb dX5_ahead_14 (by decide +kernel) ?_
      exact xr_i hx hb hrt hlocks ((by unfold am_ahead; rw [sp_if_t (by omega)])) dX5_ahead_17

set_option maxRecDepth 20000 in
theorem c_X5_forget (l : Launch) (D : va_G) (cA : Nat → ClassId) (n : Nat) (ad : Nat → Nat) (en : Nat → va_E) (sz : Nat) (hn : 68 ≤ n) {M : MO} (hM : MW cA ad en M) {S : xSt} (hW : WF S) (hR : MR S M) (z1 : Int) (hz1 : -2147483648 ≤ z1 ∧ z1 ≤ 2147483647) : Met l yX5_forget (Cond.code yX5_forget cX5_forget 3 (some .int) :: xU) (xrm 2 45) (va_Pc [.ref (ad 53), .int (xI z1)] (xM D cA n ad en sz)) (va_Qi (fun r u => r = xI (am_forget S z1).1 ∧ ∃ M' : MO, MW cA ad u M' ∧ MR (am_forget S z1).2 M' ∧ xO 53 68 en u) (xE D n ad) (xA n ad sz)) 0 0 (xA n ad sz) := by
  refine xmet (by decide) (Nat.le_of_ble_eq_true rfl) (fun p e s mm args below meth c ls hx hb hrt hml hown hts hlocks hname hB hl => ?_)
  obtain ⟨⟨hP, hK, hN⟩, hsz, hDt⟩ := hB
  have hD : xD (xA n ad sz) n ad := xD_self hDt sz
  have hA : ∀ q : Nat, s.heap.size ≤ q → xA n ad sz q := fun q h => Or.inr (by rw [← hsz]; exact h)
  have hS : va_S (xA n ad sz) s.heap s.heap [] := va_S.rf
  have hown : s.vm.findClass RX5 = some mm.cls := hown
  have hl : lv_has ls 3 [(0, .ref (ad 53)), (1, .int (xI z1))] := hl
  have ho : xO 53 68 en en := xO.rf
  rcases Classical.em (0 ≤ z1 ∧ z1 < 8) with hx_z1 | hx_z1
  · obtain ⟨t1, rfl⟩ : ∃ q : Nat, z1 = (q : Int) := ⟨z1.toNat, by omega⟩
    have h_t1 : t1 < 8 := by omega
    rcases hS_t1 : S.2.1 t1 with _ | r_t1
    · have hz_t1 : M.toldMany t1 = -1 := by have q := hR.2.1 t1 h_t1; rw [hS_t1] at q; exact q
      refine lv_iload_n hx hb dX5_forget_0 rfl (lv_at hl 1 rfl) ?_
      refine xt_i (As := [.int (xI (t1 : Int))]) (rest := []) ⟨hx, hb, hml, hown, hts⟩ hl.1 (c_X5_isText l (t1 : Int) (by omega)) k_X5_isText u_ml_RX5_87 rfl rfl (Nat.le_of_ble_eq_true rfl) ⟨Nat.le_of_ble_eq_true rfl, Nat.le_of_ble_eq_true rfl⟩ ⟨Nat.le_of_ble_eq_true rfl, Nat.le_of_ble_eq_true rfl⟩ dX5_forget_1 ?_
      refine x_top (q1 := True) ⟨fun _ => trivial, fun _ => by omega⟩ ?_
      refine x_ifb_ne (tgt := 11) hx hb dX5_forget_4 (by decide)  (fun c_4 => ?_) (fun c_4 => absurd trivial c_4)
      refine lv_aload_n hx hb dX5_forget_11 rfl (lv_at hl 0 rfl) ?_
      refine x_get (T := TX5) (N := 17) hx hb hts uX5 hown hK hP (i := 53) (by omega) hM.1 rfl 3 (by decide) u_fl_RX5_19 rfl dX5_forget_12 ?_
      refine lv_iload_n hx hb dX5_forget_15 rfl (lv_at hl 1 rfl) ?_
      refine x_ild hx hb hK hP (i := 57) (by omega) hM.2.2.2.2.1 (x := -1) (by omega) (congrArg xI hz_t1) dX5_forget_16 ?_
      refine x_if_lt (tgt := 24) hx hb dX5_forget_17 (by decide) (by omega) (fun c_17 => ?_) (fun c_17 => absurd c_17 (by omega))
      refine x_iconst hx hb dX5_forget_24 ?_
      refine lv_istore_n (lv' := [(2, .int (xI 0)), (0, .ref (ad 53)), (1, .int (xI (t1 : Int)))]) hx hb dX5_forget_25 rfl hl (by decide) rfl (fun ls hl => ?_)
      refine lv_aload_n hx hb dX5_forget_26 rfl (lv_at hl 1 rfl) ?_
      refine x_get (T := TX5) (N := 17) hx hb hts uX5 hown hK hP (i := 53) (by omega) hM.1 rfl 3 (by decide) u_fl_RX5_19 rfl dX5_forget_27 ?_
      refine lv_iload_n hx hb dX5_forget_30 rfl (lv_at hl 2 rfl) ?_
      refine x_iconst hx hb dX5_forget_31 ?_
      refine x_ist hx hb hK hP hD hS (i := 57) (by omega) hM.2.2.2.2.1 (by omega) dX5_forget_32 (fun H locs hP hS => ?_)
      obtain ⟨en1, he1⟩ : ∃ z, z = va_up en 57 (.inl (cA 0, 8, .inl (upd (fun k => xI (M.toldMany k)) t1 (xI (-1))))) := ⟨_, rfl⟩
      have hP : va_P D vwCl (xw n ad en1) H := by rw [he1]; exact hP
      have hM : MW cA ad en1 (mO M.built M.builtMany M.told (sp_up M.toldMany t1 (-1)) M.row M.rowMany M.figures M.partText M.partFrom M.partMany M.parts M.cut M.cutMany M.isCut M.cutGives M.cutAt M.h) := by rw [he1]; exact hM.u_toldMany t1 (-1)
      have ho : xO 53 68 en en1 := by rw [he1]; exact ho.up (by omega) (by omega)
      have hR : MR (S.1, sp_up S.2.1 t1 none, S.2.2) (mO M.built M.builtMany M.told (sp_up M.toldMany t1 (-1)) M.row M.rowMany M.figures M.partText M.partFrom M.partMany M.parts M.cut M.cutMany M.isCut M.cutGives M.cutAt M.h) := hR.text hW h_t1 (o := none) rfl (fun j _ => rfl)
      have hR : MR S (mO M.built M.builtMany M.told (sp_up M.toldMany t1 (-1)) M.row M.rowMany M.figures M.partText M.partFrom M.partMany M.parts M.cut M.cutMany M.isCut M.cutGives M.cutAt M.h) := by rw [← hS_t1, sp_up_id] at hR; exact hR
      refine lv_iload_n hx hb dX5_forget_33 rfl (lv_at hl 0 rfl) ?_
      refine x_if_eq (tgt := 41) hx hb dX5_forget_34 (by decide) (by omega) (fun c_34 => ?_) (fun c_34 => absurd c_34 (by omega))
      refine x_iconst hx hb dX5_forget_41 ?_
      exact xe_i hx hb hrt hlocks hP hS ((by unfold am_forget; simp only [Int.toNat_natCast]; rw [sp_if_f (by omega), sp_if_t (by simp [hS_t1])]; exact ⟨rfl, _, hM, hR, ho⟩)) dX5_forget_42
    · have hT_t1 : M.toldMany t1 = (r_t1.1 : Int) ∧ ∀ k : Nat, k < r_t1.1 → M.told (200 * t1 + k) = r_t1.2 k := by have q := hR.2.1 t1 h_t1; rw [hS_t1] at q; exact q
      have hz_t1 := hT_t1.1
      have hm_t1 := (hW.2.1 t1 r_t1 h_t1 hS_t1).1
      have hfb_t1 := (hW.2.1 t1 r_t1 h_t1 hS_t1).2
      refine lv_iload_n hx hb dX5_forget_0 rfl (lv_at hl 1 rfl) ?_
      refine xt_i (As := [.int (xI (t1 : Int))]) (rest := []) ⟨hx, hb, hml, hown, hts⟩ hl.1 (c_X5_isText l (t1 : Int) (by omega)) k_X5_isText u_ml_RX5_87 rfl rfl (Nat.le_of_ble_eq_true rfl) ⟨Nat.le_of_ble_eq_true rfl, Nat.le_of_ble_eq_true rfl⟩ ⟨Nat.le_of_ble_eq_true rfl, Nat.le_of_ble_eq_true rfl⟩ dX5_forget_1 ?_
      refine x_top (q1 := True) ⟨fun _ => trivial, fun _ => by omega⟩ ?_
      refine x_ifb_ne (tgt := 11) hx hb dX5_forget_4 (by decide)  (fun c_4 => ?_) (fun c_4 => absurd trivial c_4)
      refine lv_aload_n hx hb dX5_forget_11 rfl (lv_at hl 0 rfl) ?_
      refine x_get (T := TX5) (N := 17) hx hb hts uX5 hown hK hP (i := 53) (by omega) hM.1 rfl 3 (by decide) u_fl_RX5_19 rfl dX5_forget_12 ?_
      refine lv_iload_n hx hb dX5_forget_15 rfl (lv_at hl 1 rfl) ?_
      refine x_ild hx hb hK hP (i := 57) (by omega) hM.2.2.2.2.1 (x := (r_t1.1 : Int)) (by omega) (congrArg xI hz_t1) dX5_forget_16 ?_
      refine x_if_lt (tgt := 24) hx hb dX5_forget_17 (by decide) (by omega) (fun c_17 => absurd c_17 (by omega)) (fun c_17 => ?_)
      refine x_iconst hx hb dX5_forget_20 ?_
      refine lv_goto (tgt := 25) hx hb dX5_forget_21 (by decide) ?_
      refine lv_istore_n (lv' := [(2, .int (xI 1)), (0, .ref (ad 53)), (1, .int (xI (t1 : Int)))]) hx hb dX5_forget_25 rfl hl (by decide) rfl (fun ls hl => ?_)
      refine lv_aload_n hx hb dX5_forget_26 rfl (lv_at hl 1 rfl) ?_
      refine x_get (T := TX5) (N := 17) hx hb hts uX5 hown hK hP (i := 53) (by omega) hM.1 rfl 3 (by decide) u_fl_RX5_19 rfl dX5_forget_27 ?_
      refine lv_iload_n hx hb dX5_forget_30 rfl (lv_at hl 2 rfl) ?_
      refine x_iconst hx hb dX5_forget_31 ?_
      refine x_ist hx hb hK hP hD hS (i := 57) (by omega) hM.2.2.2.2.1 (by omega) dX5_forget_32 (fun H locs hP hS => ?_)
      obtain ⟨en2, he2⟩ : ∃ z, z = va_up en 57 (.inl (cA 0, 8, .inl (upd (fun k => xI (M.toldMany k)) t1 (xI (-1))))) := ⟨_, rfl⟩
      have hP : va_P D vwCl (xw n ad en2) H := by rw [he2]; exact hP
      have hM : MW cA ad en2 (mO M.built M.builtMany M.told (sp_up M.toldMany t1 (-1)) M.row M.rowMany M.figures M.partText M.partFrom M.partMany M.parts M.cut M.cutMany M.isCut M.cutGives M.cutAt M.h) := by rw [he2]; exact hM.u_toldMany t1 (-1)
      have ho : xO 53 68 en en2 := by rw [he2]; exact ho.up (by omega) (by omega)
      have hR : MR (S.1, sp_up S.2.1 t1 none, S.2.2) (mO M.built M.builtMany M.told (sp_up M.toldMany t1 (-1)) M.row M.rowMany M.figures M.partText M.partFrom M.partMany M.parts M.cut M.cutMany M.isCut M.cutGives M.cutAt M.h) := hR.text hW h_t1 (o := none) rfl (fun j _ => rfl)
      refine lv_iload_n hx hb dX5_forget_33 rfl (lv_at hl 0 rfl) ?_
      refine x_if_eq (tgt := 41) hx hb dX5_forget_34 (by decide) (by omega) (fun c_34 => absurd c_34 (by omega)) (fun c_34 => ?_)
      refine x_iconst hx hb dX5_forget_37 ?_
      refine lv_goto (tgt := 42) hx hb dX5_forget_38 (by decide) ?_
      exact xe_i hx hb hrt hlocks hP hS ((by unfold am_forget; simp only [Int.toNat_natCast]; rw [sp_if_f (by omega), sp_if_f (by simp [hS_t1])]; exact ⟨rfl, _, hM, hR, ho⟩)) dX5_forget_42
  · refine lv_iload_n hx hb dX5_forget_0 rfl (lv_at hl 1 rfl) ?_
    refine xt_i (As := [.int (xI z1)]) (rest := []) ⟨hx, hb, hml, hown, hts⟩ hl.1 (c_X5_isText l z1 (by omega)) k_X5_isText u_ml_RX5_87 rfl rfl (Nat.le_of_ble_eq_true rfl) ⟨Nat.le_of_ble_eq_true rfl, Nat.le_of_ble_eq_true rfl⟩ ⟨Nat.le_of_ble_eq_true rfl, Nat.le_of_ble_eq_true rfl⟩ dX5_forget_1 ?_
    refine x_top (q1 := False) ⟨fun h => absurd h (by omega), False.elim⟩ ?_
    refine x_ifb_ne (tgt := 11) hx hb dX5_forget_4 (by decide)  (fun c_4 => absurd c_4 id) (fun c_4 => ?_)
    refine x_sipush hx hb dX5_forget_7 (by decide +kernel) ?_
    exact xe_i hx hb hrt hlocks hP hS ((by unfold am_forget; rw [sp_if_t (by omega)]; exact ⟨rfl, _, hM, hR, ho⟩)) dX5_forget_10

set_option maxRecDepth 20000 in
theorem c_X5_textSize (l : Launch) (D : va_G) (cA : Nat → ClassId) (n : Nat) (ad : Nat → Nat) (en : Nat → va_E) (hn : 68 ≤ n) {M : MO} (hM : MW cA ad en M) {S : xSt} (hW : WF S) (hR : MR S M) (z1 : Int) (hz1 : -2147483648 ≤ z1 ∧ z1 ≤ 2147483647) : Met l yX5_textSize (Cond.code yX5_textSize cX5_textSize 2 (some .int) :: xU) (xrm 2 45) (va_Pc [.ref (ad 53), .int (xI z1)] (xB D cA n ad en)) (vp_Si (fun z => z = xI (am_textSize S z1))) 0 0 (fun _ => False) := by
  refine xmet (by decide) (Nat.le_of_ble_eq_true rfl) (fun p e s mm args below meth c ls hx hb hrt hml hown hts hlocks hname hB hl => ?_)
  obtain ⟨hP, hK, hN⟩ := hB
  have hl : lv_has ls 2 [(0, .ref (ad 53)), (1, .int (xI z1))] := hl
  rcases Classical.em (0 ≤ z1 ∧ z1 < 8) with hx_z1 | hx_z1
  · obtain ⟨t1, rfl⟩ : ∃ q : Nat, z1 = (q : Int) := ⟨z1.toNat, by omega⟩
    have h_t1 : t1 < 8 := by omega
    rcases hS_t1 : S.2.1 t1 with _ | r_t1
    · have hz_t1 : M.toldMany t1 = -1 := by have q := hR.2.1 t1 h_t1; rw [hS_t1] at q; exact q
      refine lv_iload_n hx hb dX5_textSize_0 rfl (lv_at hl 1 rfl) ?_
      refine xt_i (As := [.int (xI (t1 : Int))]) (rest := []) ⟨hx, hb, hml, hown, hts⟩ hl.1 (c_X5_isText l (t1 : Int) (by omega)) k_X5_isText u_ml_RX5_87 rfl rfl (Nat.le_of_ble_eq_true rfl) ⟨Nat.le_of_ble_eq_true rfl, Nat.le_of_ble_eq_true rfl⟩ ⟨Nat.le_of_ble_eq_true rfl, Nat.le_of_ble_eq_true rfl⟩ dX5_textSize_1 ?_
      refine x_top (q1 := True) ⟨fun _ => trivial, fun _ => by omega⟩ ?_
      refine x_ifb_eq (tgt := 16) hx hb dX5_textSize_4 (by decide)  (fun c_4 => absurd trivial c_4) (fun c_4 => ?_)
      refine lv_aload_n hx hb dX5_textSize_7 rfl (lv_at hl 0 rfl) ?_
      refine x_get (T := TX5) (N := 17) hx hb hts uX5 hown hK hP (i := 53) (by omega) hM.1 rfl 3 (by decide) u_fl_RX5_19 rfl dX5_textSize_8 ?_
      refine lv_iload_n hx hb dX5_textSize_11 rfl (lv_at hl 1 rfl) ?_
      refine x_ild hx hb hK hP (i := 57) (by omega) hM.2.2.2.2.1 (x := -1) (by omega) (congrArg xI hz_t1) dX5_textSize_12 ?_
      refine lv_goto (tgt := 19) hx hb dX5_textSize_13 (by decide) ?_
      exact xr_i hx hb hrt hlocks ((by unfold am_textSize; simp only [Int.toNat_natCast]; rw [sp_if_f (by omega), sp_if_t (by simp [hS_t1])])) dX5_textSize_19
    · have hT_t1 : M.toldMany t1 = (r_t1.1 : Int) ∧ ∀ k : Nat, k < r_t1.1 → M.told (200 * t1 + k) = r_t1.2 k := by have q := hR.2.1 t1 h_t1; rw [hS_t1] at q; exact q
      have hz_t1 := hT_t1.1
      have hm_t1 := (hW.2.1 t1 r_t1 h_t1 hS_t1).1
      have hfb_t1 := (hW.2.1 t1 r_t1 h_t1 hS_t1).2
      refine lv_iload_n hx hb dX5_textSize_0 rfl (lv_at hl 1 rfl) ?_
      refine xt_i (As := [.int (xI (t1 : Int))]) (rest := []) ⟨hx, hb, hml, hown, hts⟩ hl.1 (c_X5_isText l (t1 : Int) (by omega)) k_X5_isText u_ml_RX5_87 rfl rfl (Nat.le_of_ble_eq_true rfl) ⟨Nat.le_of_ble_eq_true rfl, Nat.le_of_ble_eq_true rfl⟩ ⟨Nat.le_of_ble_eq_true rfl, Nat.le_of_ble_eq_true rfl⟩ dX5_textSize_1 ?_
      refine x_top (q1 := True) ⟨fun _ => trivial, fun _ => by omega⟩ ?_
      refine x_ifb_eq (tgt := 16) hx hb dX5_textSize_4 (by decide)  (fun c_4 => absurd trivial c_4) (fun c_4 => ?_)
      refine lv_aload_n hx hb dX5_textSize_7 rfl (lv_at hl 0 rfl) ?_
      refine x_get (T := TX5) (N := 17) hx hb hts uX5 hown hK hP (i := 53) (by omega) hM.1 rfl 3 (by decide) u_fl_RX5_19 rfl dX5_textSize_8 ?_
      refine lv_iload_n hx hb dX5_textSize_11 rfl (lv_at hl 1 rfl) ?_
      refine x_ild hx hb hK hP (i := 57) (by omega) hM.2.2.2.2.1 (x := (r_t1.1 : Int)) (by omega) (congrArg xI hz_t1) dX5_textSize_12 ?_
      refine lv_goto (tgt := 19) hx hb dX5_textSize_13 (by decide) ?_
      exact xr_i hx hb hrt hlocks ((by unfold am_textSize; simp only [Int.toNat_natCast]; simp only [sp_get_s hS_t1]; rw [sp_if_f (by omega), sp_if_f (by simp [hS_t1])])) dX5_textSize_19
  · refine lv_iload_n hx hb dX5_textSize_0 rfl (lv_at hl 1 rfl) ?_
    refine xt_i (As := [.int (xI z1)]) (rest := []) ⟨hx, hb, hml, hown, hts⟩ hl.1 (c_X5_isText l z1 (by omega)) k_X5_isText u_ml_RX5_87 rfl rfl (Nat.le_of_ble_eq_true rfl) ⟨Nat.le_of_ble_eq_true rfl, Nat.le_of_ble_eq_true rfl⟩ ⟨Nat.le_of_ble_eq_true rfl, Nat.le_of_ble_eq_true rfl⟩ dX5_textSize_1 ?_
    refine x_top (q1 := False) ⟨fun h => absurd h (by omega), False.elim⟩ ?_
    refine x_ifb_eq (tgt := 16) hx hb dX5_textSize_4 (by decide)  (fun c_4 => ?_) (fun c_4 => absurd c_4 id)
    refine x_sipush hx hb dX5_textSize_16 (by decide +kernel) ?_
    exact xr_i hx hb hrt hlocks ((by unfold am_textSize; rw [sp_if_t (by omega)])) dX5_textSize_19

set_option maxRecDepth 20000 in
theorem c_X5_signAt (l : Launch) (D : va_G) (cA : Nat → ClassId) (n : Nat) (ad : Nat → Nat) (en : Nat → va_E) (hn : 68 ≤ n) {M : MO} (hM : MW cA ad en M) {S : xSt} (hW : WF S) (hR : MR S M) (z1 : Int) (hz1 : -2147483648 ≤ z1 ∧ z1 ≤ 2147483647) (z2 : Int) (hz2 : -2147483648 ≤ z2 ∧ z2 ≤ 2147483647) : Met l yX5_signAt (Cond.code yX5_signAt cX5_signAt 3 (some .int) :: xU) (xrm 2 45) (va_Pc [.ref (ad 53), .int (xI z1), .int (xI z2)] (xB D cA n ad en)) (vp_Si (fun z => z = xI (am_signAt S z1 z2))) 0 0 (fun _ => False) := by
  refine xmet (by decide) (Nat.le_of_ble_eq_true rfl) (fun p e s mm args below meth c ls hx hb hrt hml hown hts hlocks hname hB hl => ?_)
  obtain ⟨hP, hK, hN⟩ := hB
  have hl : lv_has ls 3 [(0, .ref (ad 53)), (1, .int (xI z1)), (2, .int (xI z2))] := hl
  rcases Classical.em (0 ≤ z1 ∧ z1 < 8) with hx_z1 | hx_z1
  · obtain ⟨t1, rfl⟩ : ∃ q : Nat, z1 = (q : Int) := ⟨z1.toNat, by omega⟩
    have h_t1 : t1 < 8 := by omega
    rcases hS_t1 : S.2.1 t1 with _ | r_t1
    · have hz_t1 : M.toldMany t1 = -1 := by have q := hR.2.1 t1 h_t1; rw [hS_t1] at q; exact q
      refine lv_iload_n hx hb dX5_signAt_0 rfl (lv_at hl 1 rfl) ?_
      refine xt_i (As := [.int (xI (t1 : Int))]) (rest := []) ⟨hx, hb, hml, hown, hts⟩ hl.1 (c_X5_isText l (t1 : Int) (by omega)) k_X5_isText u_ml_RX5_87 rfl rfl (Nat.le_of_ble_eq_true rfl) ⟨Nat.le_of_ble_eq_true rfl, Nat.le_of_ble_eq_true rfl⟩ ⟨Nat.le_of_ble_eq_true rfl, Nat.le_of_ble_eq_true rfl⟩ dX5_signAt_1 ?_
      refine x_top (q1 := True) ⟨fun _ => trivial, fun _ => by omega⟩ ?_
      refine x_ifb_ne (tgt := 11) hx hb dX5_signAt_4 (by decide)  (fun c_4 => ?_) (fun c_4 => absurd trivial c_4)
      refine lv_aload_n hx hb dX5_signAt_11 rfl (lv_at hl 0 rfl) ?_
      refine x_get (T := TX5) (N := 17) hx hb hts uX5 hown hK hP (i := 53) (by omega) hM.1 rfl 3 (by decide) u_fl_RX5_19 rfl dX5_signAt_12 ?_
      refine lv_iload_n hx hb dX5_signAt_15 rfl (lv_at hl 1 rfl) ?_
      refine x_ild hx hb hK hP (i := 57) (by omega) hM.2.2.2.2.1 (x := -1) (by omega) (congrArg xI hz_t1) dX5_signAt_16 ?_
      refine x_if_ge (tgt := 24) hx hb dX5_signAt_17 (by decide) (by omega) (fun c_17 => absurd c_17 (by omega)) (fun c_17 => ?_)
      refine x_sipush hx hb dX5_signAt_20 (by decide +kernel) ?_
      exact xr_i hx hb hrt hlocks ((by unfold am_signAt; simp only [Int.toNat_natCast]; rw [sp_if_f (by omega), sp_if_t (by simp [hS_t1])])) dX5_signAt_23
    · have hT_t1 : M.toldMany t1 = (r_t1.1 : Int) ∧ ∀ k : Nat, k < r_t1.1 → M.told (200 * t1 + k) = r_t1.2 k := by have q := hR.2.1 t1 h_t1; rw [hS_t1] at q; exact q
      have hz_t1 := hT_t1.1
      have hm_t1 := (hW.2.1 t1 r_t1 h_t1 hS_t1).1
      have hfb_t1 := (hW.2.1 t1 r_t1 h_t1 hS_t1).2
      refine lv_iload_n hx hb dX5_signAt_0 rfl (lv_at hl 1 rfl) ?_
      refine xt_i (As := [.int (xI (t1 : Int))]) (rest := []) ⟨hx, hb, hml, hown, hts⟩ hl.1 (c_X5_isText l (t1 : Int) (by omega)) k_X5_isText u_ml_RX5_87 rfl rfl (Nat.le_of_ble_eq_true rfl) ⟨Nat.le_of_ble_eq_true rfl, Nat.le_of_ble_eq_true rfl⟩ ⟨Nat.le_of_ble_eq_true rfl, Nat.le_of_ble_eq_true rfl⟩ dX5_signAt_1 ?_
      refine x_top (q1 := True) ⟨fun _ => trivial, fun _ => by omega⟩ ?_
      refine x_ifb_ne (tgt := 11) hx hb dX5_signAt_4 (by decide)  (fun c_4 => ?_) (fun c_4 => absurd trivial c_4)
      refine lv_aload_n hx hb dX5_signAt_11 rfl (lv_at hl 0 rfl) ?_
      refine x_get (T := TX5) (N := 17) hx hb hts uX5 hown hK hP (i := 53) (by omega) hM.1 rfl 3 (by decide) u_fl_RX5_19 rfl dX5_signAt_12 ?_
      refine lv_iload_n hx hb dX5_signAt_15 rfl (lv_at hl 1 rfl) ?_
      refine x_ild hx hb hK hP (i := 57) (by omega) hM.2.2.2.2.1 (x := (r_t1.1 : Int)) (by omega) (congrArg xI hz_t1) dX5_signAt_16 ?_
      refine x_if_ge (tgt := 24) hx hb dX5_signAt_17 (by decide) (by omega) (fun c_17 => ?_) (fun c_17 => absurd c_17 (by omega))
      refine lv_iload_n hx hb dX5_signAt_24 rfl (lv_at hl 2 rfl) ?_
      refine x_i2l hx hb dX5_signAt_25 (by omega) ?_
      refine lv_lconst (v := xL 0) hx hb dX5_signAt_26 (by decide +kernel) ?_
      refine lv_aload_n hx hb dX5_signAt_27 rfl (lv_at hl 0 rfl) ?_
      refine x_get (T := TX5) (N := 17) hx hb hts uX5 hown hK hP (i := 53) (by omega) hM.1 rfl 3 (by decide) u_fl_RX5_19 rfl dX5_signAt_28 ?_
      refine lv_iload_n hx hb dX5_signAt_31 rfl (lv_at hl 1 rfl) ?_
      refine x_ild hx hb hK hP (i := 57) (by omega) hM.2.2.2.2.1 (x := (r_t1.1 : Int)) (by omega) (congrArg xI hz_t1) dX5_signAt_32 ?_
      refine x_iconst hx hb dX5_signAt_33 ?_
      refine x_isub hx hb dX5_signAt_34 ?_
      refine x_i2l hx hb dX5_signAt_35 (by omega) ?_
      refine xt_i (As := [.long (xL z2), .long (xL 0), .long (xL ((r_t1.1 : Int) - 1))]) (rest := []) ⟨hx, hb, hml, hown, hts⟩ hl.1 (c_X5_in l z2 0 ((r_t1.1 : Int) - 1) (by omega) (by omega) (by omega)) k_X5_in u_ml_RX5_54 rfl rfl (Nat.le_of_ble_eq_true rfl) ⟨Nat.le_of_ble_eq_true rfl, Nat.le_of_ble_eq_true rfl⟩ ⟨Nat.le_of_ble_eq_true rfl, Nat.le_of_ble_eq_true rfl⟩ dX5_signAt_36 ?_
      refine x_ifb_eq (tgt := 57) hx hb dX5_signAt_39 (by decide)  (fun c_39 => ?_) (fun c_39 => ?_)
      · refine x_sipush hx hb dX5_signAt_57 (by decide +kernel) ?_
        exact xr_i hx hb hrt hlocks ((by unfold am_signAt; simp only [Int.toNat_natCast]; simp only [sp_get_s hS_t1]; rw [sp_if_f (by omega), sp_if_f (by simp [hS_t1]), sp_if_t (by omega)])) dX5_signAt_60
      · refine lv_aload_n hx hb dX5_signAt_42 rfl (lv_at hl 0 rfl) ?_
        refine x_get (T := TX5) (N := 17) hx hb hts uX5 hown hK hP (i := 53) (by omega) hM.1 rfl 2 (by decide) u_fl_RX5_16 rfl dX5_signAt_43 ?_
        refine x_sipush hx hb dX5_signAt_46 (by decide +kernel) ?_
        refine lv_iload_n hx hb dX5_signAt_49 rfl (lv_at hl 1 rfl) ?_
        refine x_imul hx hb dX5_signAt_50 ?_
        refine lv_iload_n hx hb dX5_signAt_51 rfl (lv_at hl 2 rfl) ?_
        refine x_iadd hx hb dX5_signAt_52 ?_
        refine x_ild hx hb hK hP (i := 56) (by omega) hM.2.2.2.1 (x := M.told (Int.toNat ((200 * (t1 : Int)) + z2))) (by omega) (rfl) dX5_signAt_53 ?_
        refine x_to (r_t1.2 (Int.toNat z2)) (by rw [show Int.toNat (200 * (t1 : Int) + z2) = 200 * t1 + Int.toNat z2 by omega]; exact hT_t1.2 _ (by omega)) ?_
        refine lv_goto (tgt := 60) hx hb dX5_signAt_54 (by decide) ?_
        exact xr_i hx hb hrt hlocks ((by unfold am_signAt; simp only [Int.toNat_natCast]; simp only [sp_get_s hS_t1]; rw [sp_if_f (by omega), sp_if_f (by simp [hS_t1]), sp_if_f (by omega)])) dX5_signAt_60
  · refine lv_iload_n hx hb dX5_signAt_0 rfl (lv_at hl 1 rfl) ?_
    refine xt_i (As := [.int (xI z1)]) (rest := []) ⟨hx, hb, hml, hown, hts⟩ hl.1 (c_X5_isText l z1 (by omega)) k_X5_isText u_ml_RX5_87 rfl rfl (Nat.le_of_ble_eq_true rfl) ⟨Nat.le_of_ble_eq_true rfl, Nat.le_of_ble_eq_true rfl⟩ ⟨Nat.le_of_ble_eq_true rfl, Nat.le_of_ble_eq_true rfl⟩ dX5_signAt_1 ?_
    refine x_top (q1 := False) ⟨fun h => absurd h (by omega), False.elim⟩ ?_
    refine x_ifb_ne (tgt := 11) hx hb dX5_signAt_4 (by decide)  (fun c_4 => absurd c_4 id) (fun c_4 => ?_)
    refine x_sipush hx hb dX5_signAt_7 (by decide +kernel) ?_
    exact xr_i hx hb hrt hlocks ((by unfold am_signAt; rw [sp_if_t (by omega)])) dX5_signAt_10

set_option maxRecDepth 20000 in
theorem c_X5_firstSign (l : Launch) (D : va_G) (cA : Nat → ClassId) (n : Nat) (ad : Nat → Nat) (en : Nat → va_E) (sz : Nat) (hn : 68 ≤ n) {M : MO} (hM : MW cA ad en M) {S : xSt} (hW : WF S) (hR : MR S M) (z1 : Int) (hz1 : -2147483648 ≤ z1 ∧ z1 ≤ 2147483647) (z2 : Int) (hz2 : -2147483648 ≤ z2 ∧ z2 ≤ 2147483647) (z3 : Int) (hz3 : -2147483648 ≤ z3 ∧ z3 ≤ 2147483647) : Met l yX5_firstSign (Cond.code yX5_firstSign cX5_firstSign 5 (some .int) :: xU) (xrm 3 77) (va_Pc [.ref (ad 53), .int (xI z1), .int (xI z2), .int (xI z3)] (xM D cA n ad en sz)) (va_Qi (fun r u => r = xI (am_firstSign S z1 z2 z3) ∧ ∃ M' : MO, MW cA ad u M' ∧ MR S M' ∧ xO 53 68 en u) (xE D n ad) (xA n ad sz)) 0 0 (xA n ad sz) := by
  refine xmet (by decide) (Nat.le_of_ble_eq_true rfl) (fun p e s mm args below meth c ls hx hb hrt hml hown hts hlocks hname hB hl => ?_)
  obtain ⟨⟨hP, hK, hN⟩, hsz, hDt⟩ := hB
  have hD : xD (xA n ad sz) n ad := xD_self hDt sz
  have hA : ∀ q : Nat, s.heap.size ≤ q → xA n ad sz q := fun q h => Or.inr (by rw [← hsz]; exact h)
  have hS : va_S (xA n ad sz) s.heap s.heap [] := va_S.rf
  have hown : s.vm.findClass RX5 = some mm.cls := hown
  have hl : lv_has ls 5 [(0, .ref (ad 53)), (1, .int (xI z1)), (2, .int (xI z2)), (3, .int (xI z3))] := hl
  have ho : xO 53 68 en en := xO.rf
  rcases Classical.em (0 ≤ z1 ∧ z1 < 8) with hx_z1 | hx_z1
  · obtain ⟨t1, rfl⟩ : ∃ q : Nat, z1 = (q : Int) := ⟨z1.toNat, by omega⟩
    have h_t1 : t1 < 8 := by omega
    rcases hS_t1 : S.2.1 t1 with _ | r_t1
    · rcases Classical.em (0 ≤ z2 ∧ z2 < 256) with hsg_z2 | hsg_z2
      · have hz_t1 : M.toldMany t1 = -1 := by have q := hR.2.1 t1 h_t1; rw [hS_t1] at q; exact q
        refine lv_aload_n hx hb dX5_firstSign_0 rfl (lv_at hl 0 rfl) ?_
        refine lv_iload_n hx hb dX5_firstSign_1 rfl (lv_at hl 1 rfl) ?_
        refine lv_iload_n hx hb dX5_firstSign_2 rfl (lv_at hl 2 rfl) ?_
        have hy_t1 : M.toldMany (Int.toNat (t1 : Int)) = -1 := hz_t1
        refine xv_i (i := 53) (As := [.int (xI (t1 : Int)), .int (xI z2)]) (rest := []) ⟨hx, hb, hml, hown, hts⟩ hl.1 (c_X5_bars l D cA n ad en hn hM (t1 : Int) z2 (-1003) (by omega) (by omega) (fun _ => by show -1 ≤ M.toldMany t1 ∧ M.toldMany t1 ≤ 200; omega) (by omega)) k_X5_bars u_ml_RX5_125 hK hN hP (by omega) hM.1 rfl rfl rfl rfl (Nat.le_of_ble_eq_true rfl) ⟨Nat.le_of_ble_eq_true rfl, Nat.le_of_ble_eq_true rfl⟩ ⟨Nat.le_of_ble_eq_true rfl, Nat.le_of_ble_eq_true rfl⟩ dX5_firstSign_3 ?_
        refine lv_istore (lv' := [(4, .int (xI (-1003))), (0, .ref (ad 53)), (1, .int (xI (t1 : Int))), (2, .int (xI z2)), (3, .int (xI z3))]) hx hb dX5_firstSign_6 hl (by decide) rfl (fun ls hl => ?_)
        refine lv_iload hx hb dX5_firstSign_8 (lv_at hl 0 rfl) ?_
        refine x_if_ge (tgt := 16) hx hb dX5_firstSign_10 (by decide) (by omega) (fun c_10 => absurd c_10 (by omega)) (fun c_10 => ?_)
        refine lv_iload hx hb dX5_firstSign_13 (lv_at hl 0 rfl) ?_
        exact xe_i hx hb hrt hlocks hP hS ((by unfold am_firstSign; simp only [Int.toNat_natCast]; rw [sp_if_f (by omega), sp_if_f (by omega), sp_if_t (by simp [hS_t1])]; exact ⟨rfl, _, hM, hR, ho⟩)) dX5_firstSign_15
      · have hz_t1 : M.toldMany t1 = -1 := by have q := hR.2.1 t1 h_t1; rw [hS_t1] at q; exact q
        refine lv_aload_n hx hb dX5_firstSign_0 rfl (lv_at hl 0 rfl) ?_
        refine lv_iload_n hx hb dX5_firstSign_1 rfl (lv_at hl 1 rfl) ?_
        refine lv_iload_n hx hb dX5_firstSign_2 rfl (lv_at hl 2 rfl) ?_
        have hy_t1 : M.toldMany (Int.toNat (t1 : Int)) = -1 := hz_t1
        refine xv_i (i := 53) (As := [.int (xI (t1 : Int)), .int (xI z2)]) (rest := []) ⟨hx, hb, hml, hown, hts⟩ hl.1 (c_X5_bars l D cA n ad en hn hM (t1 : Int) z2 (-1002) (by omega) (by omega) (fun _ => by show -1 ≤ M.toldMany t1 ∧ M.toldMany t1 ≤ 200; omega) (by omega)) k_X5_bars u_ml_RX5_125 hK hN hP (by omega) hM.1 rfl rfl rfl rfl (Nat.le_of_ble_eq_true rfl) ⟨Nat.le_of_ble_eq_true rfl, Nat.le_of_ble_eq_true rfl⟩ ⟨Nat.le_of_ble_eq_true rfl, Nat.le_of_ble_eq_true rfl⟩ dX5_firstSign_3 ?_
        refine lv_istore (lv' := [(4, .int (xI (-1002))), (0, .ref (ad 53)), (1, .int (xI (t1 : Int))), (2, .int (xI z2)), (3, .int (xI z3))]) hx hb dX5_firstSign_6 hl (by decide) rfl (fun ls hl => ?_)
        refine lv_iload hx hb dX5_firstSign_8 (lv_at hl 0 rfl) ?_
        refine x_if_ge (tgt := 16) hx hb dX5_firstSign_10 (by decide) (by omega) (fun c_10 => absurd c_10 (by omega)) (fun c_10 => ?_)
        refine lv_iload hx hb dX5_firstSign_13 (lv_at hl 0 rfl) ?_
        exact xe_i hx hb hrt hlocks hP hS ((by unfold am_firstSign; simp only [Int.toNat_natCast]; rw [sp_if_f (by omega), sp_if_t (by omega)]; exact ⟨rfl, _, hM, hR, ho⟩)) dX5_firstSign_15
    · rcases Classical.em (0 ≤ z2 ∧ z2 < 256) with hsg_z2 | hsg_z2
      · have hT_t1 : M.toldMany t1 = (r_t1.1 : Int) ∧ ∀ k : Nat, k < r_t1.1 → M.told (200 * t1 + k) = r_t1.2 k := by have q := hR.2.1 t1 h_t1; rw [hS_t1] at q; exact q
        have hz_t1 := hT_t1.1
        have hm_t1 := (hW.2.1 t1 r_t1 h_t1 hS_t1).1
        have hfb_t1 := (hW.2.1 t1 r_t1 h_t1 hS_t1).2
        refine lv_aload_n hx hb dX5_firstSign_0 rfl (lv_at hl 0 rfl) ?_
        refine lv_iload_n hx hb dX5_firstSign_1 rfl (lv_at hl 1 rfl) ?_
        refine lv_iload_n hx hb dX5_firstSign_2 rfl (lv_at hl 2 rfl) ?_
        have hy_t1 : M.toldMany (Int.toNat (t1 : Int)) = (r_t1.1 : Int) := hz_t1
        refine xv_i (i := 53) (As := [.int (xI (t1 : Int)), .int (xI z2)]) (rest := []) ⟨hx, hb, hml, hown, hts⟩ hl.1 (c_X5_bars l D cA n ad en hn hM (t1 : Int) z2 0 (by omega) (by omega) (fun _ => by show -1 ≤ M.toldMany t1 ∧ M.toldMany t1 ≤ 200; omega) (by omega)) k_X5_bars u_ml_RX5_125 hK hN hP (by omega) hM.1 rfl rfl rfl rfl (Nat.le_of_ble_eq_true rfl) ⟨Nat.le_of_ble_eq_true rfl, Nat.le_of_ble_eq_true rfl⟩ ⟨Nat.le_of_ble_eq_true rfl, Nat.le_of_ble_eq_true rfl⟩ dX5_firstSign_3 ?_
        refine lv_istore (lv' := [(4, .int (xI 0)), (0, .ref (ad 53)), (1, .int (xI (t1 : Int))), (2, .int (xI z2)), (3, .int (xI z3))]) hx hb dX5_firstSign_6 hl (by decide) rfl (fun ls hl => ?_)
        refine lv_iload hx hb dX5_firstSign_8 (lv_at hl 0 rfl) ?_
        refine x_if_ge (tgt := 16) hx hb dX5_firstSign_10 (by decide) (by omega) (fun c_10 => ?_) (fun c_10 => absurd c_10 (by omega))
        refine lv_aload_n hx hb dX5_firstSign_16 rfl (lv_at hl 1 rfl) ?_
        refine lv_iload_n hx hb dX5_firstSign_17 rfl (lv_at hl 3 rfl) ?_
        refine xm_v (i := 53) (As := [.int (xI z2)]) (rest := []) ⟨hx, hb, hml, hown, hts⟩ hl.1 (c_X5_laySign l D cA n ad en _ hn hM z2) k_X5_laySign u_ml_RX5_77 hK hN hP (by omega) hM.1 rfl rfl rfl rfl (Nat.le_of_ble_eq_true rfl) ⟨Nat.le_of_ble_eq_true rfl, Nat.le_of_ble_eq_true rfl⟩ ⟨Nat.le_of_ble_eq_true rfl, Nat.le_of_ble_eq_true rfl⟩ dX5_firstSign_18 hD hS hA (fun en1 H locs hp1 hP hS => ?_)
        obtain ⟨hM, ho2⟩ := hp1
        have hM : MW cA ad en1 (mO M.built M.builtMany M.told M.toldMany (sp_up M.row 0 z2) 1 M.figures M.partText M.partFrom M.partMany M.parts M.cut M.cutMany M.isCut M.cutGives M.cutAt M.h) := hM
        have ho := ho.tr ho2
        refine lv_aload_n hx hb dX5_firstSign_21 rfl (lv_at hl 1 rfl) ?_
        refine lv_aload_n hx hb dX5_firstSign_22 rfl (lv_at hl 1 rfl) ?_
        refine x_get (T := TX5) (N := 17) hx hb hts uX5 hown hK hP (i := 53) (by omega) (show en1 53 = .inr (5, [.ref (ad 54), .ref (ad 55), .ref (ad 56), .ref (ad 57), .ref (ad 58), .int (xI 1), .ref (ad 59), .ref (ad 60), .ref (ad 61), .ref (ad 62), .int (xI M.parts), .ref (ad 63), .ref (ad 64), .ref (ad 65), .ref (ad 66), .ref (ad 67), .long M.h]) from hM.1) rfl 2 (by decide) u_fl_RX5_16 rfl dX5_firstSign_23 ?_
        refine x_sipush hx hb dX5_firstSign_26 (by decide +kernel) ?_
        refine lv_iload_n hx hb dX5_firstSign_29 rfl (lv_at hl 2 rfl) ?_
        refine x_imul hx hb dX5_firstSign_30 ?_
        refine x_to (((200 * t1 : Nat) : Int)) (by omega) ?_
        refine lv_aload_n hx hb dX5_firstSign_31 rfl (lv_at hl 1 rfl) ?_
        refine x_get (T := TX5) (N := 17) hx hb hts uX5 hown hK hP (i := 53) (by omega) (show en1 53 = .inr (5, [.ref (ad 54), .ref (ad 55), .ref (ad 56), .ref (ad 57), .ref (ad 58), .int (xI 1), .ref (ad 59), .ref (ad 60), .ref (ad 61), .ref (ad 62), .int (xI M.parts), .ref (ad 63), .ref (ad 64), .ref (ad 65), .ref (ad 66), .ref (ad 67), .long M.h]) from hM.1) rfl 3 (by decide) u_fl_RX5_19 rfl dX5_firstSign_32 ?_
        refine lv_iload_n hx hb dX5_firstSign_35 rfl (lv_at hl 2 rfl) ?_
        refine x_ild hx hb hK hP (i := 57) (by omega) hM.2.2.2.2.1 (x := (r_t1.1 : Int)) (by omega) (congrArg xI hz_t1) dX5_firstSign_36 ?_
        refine lv_iload_n hx hb dX5_firstSign_37 rfl (lv_at hl 4 rfl) ?_
        refine xv_i (i := 53) (As := [.ref (ad 56), .int (xI ((200 * t1 : Nat) : Int)), .int (xI (r_t1.1 : Int)), .int (xI z3)]) (rest := []) ⟨hx, hb, hml, hown, hts⟩ hl.1 (c_X5_firstOf l D cA n ad en1 hn hM (q0 := 56) (L9 := 1600) (g9 := M.told) (h := (fun _ => z2)) (by omega) hM.2.2.2.1 (200 * t1) r_t1.1 (by omega) (by omega) hT_t1.2 hfb_t1 hm_t1 1 (show 1 = ((1 : Nat) : Int) from rfl) (by omega) (fun k hk => by rw [show k = 0 by omega]; exact sp_up_s M.row 0 z2) (fun k hk => by show 0 ≤ z2 ∧ z2 ≤ 255; omega) z3 (by omega)) k_X5_firstOf u_ml_RX5_111 hK hN hP (by omega) (show en1 53 = .inr (5, [.ref (ad 54), .ref (ad 55), .ref (ad 56), .ref (ad 57), .ref (ad 58), .int (xI 1), .ref (ad 59), .ref (ad 60), .ref (ad 61), .ref (ad 62), .int (xI M.parts), .ref (ad 63), .ref (ad 64), .ref (ad 65), .ref (ad 66), .ref (ad 67), .long M.h]) from hM.1) rfl rfl rfl rfl (Nat.le_of_ble_eq_true rfl) ⟨Nat.le_of_ble_eq_true rfl, Nat.le_of_ble_eq_true rfl⟩ ⟨Nat.le_of_ble_eq_true rfl, Nat.le_of_ble_eq_true rfl⟩ dX5_firstSign_38 ?_
        exact xe_i hx hb hrt hlocks hP hS ((by unfold am_firstSign; simp only [Int.toNat_natCast]; simp only [sp_get_s hS_t1]; rw [sp_if_f (by omega), sp_if_f (by omega), sp_if_f (by simp [hS_t1])]; exact ⟨congrArg xI m_findS, _, hM, hR, ho⟩)) dX5_firstSign_41
      · have hT_t1 : M.toldMany t1 = (r_t1.1 : Int) ∧ ∀ k : Nat, k < r_t1.1 → M.told (200 * t1 + k) = r_t1.2 k := by have q := hR.2.1 t1 h_t1; rw [hS_t1] at q; exact q
        have hz_t1 := hT_t1.1
        have hm_t1 := (hW.2.1 t1 r_t1 h_t1 hS_t1).1
        have hfb_t1 := (hW.2.1 t1 r_t1 h_t1 hS_t1).2
        refine lv_aload_n hx hb dX5_firstSign_0 rfl (lv_at hl 0 rfl) ?_
        refine lv_iload_n hx hb dX5_firstSign_1 rfl (lv_at hl 1 rfl) ?_
        refine lv_iload_n hx hb dX5_firstSign_2 rfl (lv_at hl 2 rfl) ?_
        have hy_t1 : M.toldMany (Int.toNat (t1 : Int)) = (r_t1.1 : Int) := hz_t1
        refine xv_i (i := 53) (As := [.int (xI (t1 : Int)), .int (xI z2)]) (rest := []) ⟨hx, hb, hml, hown, hts⟩ hl.1 (c_X5_bars l D cA n ad en hn hM (t1 : Int) z2 (-1002) (by omega) (by omega) (fun _ => by show -1 ≤ M.toldMany t1 ∧ M.toldMany t1 ≤ 200; omega) (by omega)) k_X5_bars u_ml_RX5_125 hK hN hP (by omega) hM.1 rfl rfl rfl rfl (Nat.le_of_ble_eq_true rfl) ⟨Nat.le_of_ble_eq_true rfl, Nat.le_of_ble_eq_true rfl⟩ ⟨Nat.le_of_ble_eq_true rfl, Nat.le_of_ble_eq_true rfl⟩ dX5_firstSign_3 ?_
        refine lv_istore (lv' := [(4, .int (xI (-1002))), (0, .ref (ad 53)), (1, .int (xI (t1 : Int))), (2, .int (xI z2)), (3, .int (xI z3))]) hx hb dX5_firstSign_6 hl (by decide) rfl (fun ls hl => ?_)
        refine lv_iload hx hb dX5_firstSign_8 (lv_at hl 0 rfl) ?_
        refine x_if_ge (tgt := 16) hx hb dX5_firstSign_10 (by decide) (by omega) (fun c_10 => absurd c_10 (by omega)) (fun c_10 => ?_)
        refine lv_iload hx hb dX5_firstSign_13 (lv_at hl 0 rfl) ?_
        exact xe_i hx hb hrt hlocks hP hS ((by unfold am_firstSign; simp only [Int.toNat_natCast]; simp only [sp_get_s hS_t1]; rw [sp_if_f (by omega), sp_if_t (by omega)]; exact ⟨rfl, _, hM, hR, ho⟩)) dX5_firstSign_15
  · rcases Classical.em (0 ≤ z2 ∧ z2 < 256) with hsg_z2 | hsg_z2
    · refine lv_aload_n hx hb dX5_firstSign_0 rfl (lv_at hl 0 rfl) ?_
      refine lv_iload_n hx hb dX5_firstSign_1 rfl (lv_at hl 1 rfl) ?_
      refine lv_iload_n hx hb dX5_firstSign_2 rfl (lv_at hl 2 rfl) ?_
      refine xv_i (i := 53) (As := [.int (xI z1), .int (xI z2)]) (rest := []) ⟨hx, hb, hml, hown, hts⟩ hl.1 (c_X5_bars l D cA n ad en hn hM z1 z2 (-1001) (by omega) (by omega) (fun h => absurd h (by omega)) (by omega)) k_X5_bars u_ml_RX5_125 hK hN hP (by omega) hM.1 rfl rfl rfl rfl (Nat.le_of_ble_eq_true rfl) ⟨Nat.le_of_ble_eq_true rfl, Nat.le_of_ble_eq_true rfl⟩ ⟨Nat.le_of_ble_eq_true rfl, Nat.le_of_ble_eq_true rfl⟩ dX5_firstSign_3 ?_
      refine lv_istore (lv' := [(4, .int (xI (-1001))), (0, .ref (ad 53)), (1, .int (xI z1)), (2, .int (xI z2)), (3, .int (xI z3))]) hx hb dX5_firstSign_6 hl (by decide) rfl (fun ls hl => ?_)
      refine lv_iload hx hb dX5_firstSign_8 (lv_at hl 0 rfl) ?_
      refine x_if_ge (tgt := 16) hx hb dX5_firstSign_10 (by decide) (by omega) (fun c_10 => absurd c_10 (by omega)) (fun c_10 => ?_)
      refine lv_iload hx hb dX5_firstSign_13 (lv_at hl 0 rfl) ?_
      exact xe_i hx hb hrt hlocks hP hS ((by unfold am_firstSign; rw [sp_if_t (by omega)]; exact ⟨rfl, _, hM, hR, ho⟩)) dX5_firstSign_15
    · refine lv_aload_n hx hb dX5_firstSign_0 rfl (lv_at hl 0 rfl) ?_
      refine lv_iload_n hx hb dX5_firstSign_1 rfl (lv_at hl 1 rfl) ?_
      refine lv_iload_n hx hb dX5_firstSign_2 rfl (lv_at hl 2 rfl) ?_
      refine xv_i (i := 53) (As := [.int (xI z1), .int (xI z2)]) (rest := []) ⟨hx, hb, hml, hown, hts⟩ hl.1 (c_X5_bars l D cA n ad en hn hM z1 z2 (-1001) (by omega) (by omega) (fun h => absurd h (by omega)) (by omega)) k_X5_bars u_ml_RX5_125 hK hN hP (by omega) hM.1 rfl rfl rfl rfl (Nat.le_of_ble_eq_true rfl) ⟨Nat.le_of_ble_eq_true rfl, Nat.le_of_ble_eq_true rfl⟩ ⟨Nat.le_of_ble_eq_true rfl, Nat.le_of_ble_eq_true rfl⟩ dX5_firstSign_3 ?_
      refine lv_istore (lv' := [(4, .int (xI (-1001))), (0, .ref (ad 53)), (1, .int (xI z1)), (2, .int (xI z2)), (3, .int (xI z3))]) hx hb dX5_firstSign_6 hl (by decide) rfl (fun ls hl => ?_)
      refine lv_iload hx hb dX5_firstSign_8 (lv_at hl 0 rfl) ?_
      refine x_if_ge (tgt := 16) hx hb dX5_firstSign_10 (by decide) (by omega) (fun c_10 => absurd c_10 (by omega)) (fun c_10 => ?_)
      refine lv_iload hx hb dX5_firstSign_13 (lv_at hl 0 rfl) ?_
      exact xe_i hx hb hrt hlocks hP hS ((by unfold am_firstSign; rw [sp_if_t (by omega)]; exact ⟨rfl, _, hM, hR, ho⟩)) dX5_firstSign_15

set_option maxRecDepth 20000 in
theorem c_X5_lastSign (l : Launch) (D : va_G) (cA : Nat → ClassId) (n : Nat) (ad : Nat → Nat) (en : Nat → va_E) (sz : Nat) (hn : 68 ≤ n) {M : MO} (hM : MW cA ad en M) {S : xSt} (hW : WF S) (hR : MR S M) (z1 : Int) (hz1 : -2147483648 ≤ z1 ∧ z1 ≤ 2147483647) (z2 : Int) (hz2 : -2147483648 ≤ z2 ∧ z2 ≤ 2147483647) (z3 : Int) (hz3 : -2147483648 ≤ z3 ∧ z3 ≤ 2147483647) : Met l yX5_lastSign (Cond.code yX5_lastSign cX5_lastSign 5 (some .int) :: xU) (xrm 3 76) (va_Pc [.ref (ad 53), .int (xI z1), .int (xI z2), .int (xI z3)] (xM D cA n ad en sz)) (va_Qi (fun r u => r = xI (am_lastSign S z1 z2 z3) ∧ ∃ M' : MO, MW cA ad u M' ∧ MR S M' ∧ xO 53 68 en u) (xE D n ad) (xA n ad sz)) 0 0 (xA n ad sz) := by
  refine xmet (by decide) (Nat.le_of_ble_eq_true rfl) (fun p e s mm args below meth c ls hx hb hrt hml hown hts hlocks hname hB hl => ?_)
  obtain ⟨⟨hP, hK, hN⟩, hsz, hDt⟩ := hB
  have hD : xD (xA n ad sz) n ad := xD_self hDt sz
  have hA : ∀ q : Nat, s.heap.size ≤ q → xA n ad sz q := fun q h => Or.inr (by rw [← hsz]; exact h)
  have hS : va_S (xA n ad sz) s.heap s.heap [] := va_S.rf
  have hown : s.vm.findClass RX5 = some mm.cls := hown
  have hl : lv_has ls 5 [(0, .ref (ad 53)), (1, .int (xI z1)), (2, .int (xI z2)), (3, .int (xI z3))] := hl
  have ho : xO 53 68 en en := xO.rf
  rcases Classical.em (0 ≤ z1 ∧ z1 < 8) with hx_z1 | hx_z1
  · obtain ⟨t1, rfl⟩ : ∃ q : Nat, z1 = (q : Int) := ⟨z1.toNat, by omega⟩
    have h_t1 : t1 < 8 := by omega
    rcases hS_t1 : S.2.1 t1 with _ | r_t1
    · rcases Classical.em (0 ≤ z2 ∧ z2 < 256) with hsg_z2 | hsg_z2
      · have hz_t1 : M.toldMany t1 = -1 := by have q := hR.2.1 t1 h_t1; rw [hS_t1] at q; exact q
        refine lv_aload_n hx hb dX5_lastSign_0 rfl (lv_at hl 0 rfl) ?_
        refine lv_iload_n hx hb dX5_lastSign_1 rfl (lv_at hl 1 rfl) ?_
        refine lv_iload_n hx hb dX5_lastSign_2 rfl (lv_at hl 2 rfl) ?_
        have hy_t1 : M.toldMany (Int.toNat (t1 : Int)) = -1 := hz_t1
        refine xv_i (i := 53) (As := [.int (xI (t1 : Int)), .int (xI z2)]) (rest := []) ⟨hx, hb, hml, hown, hts⟩ hl.1 (c_X5_bars l D cA n ad en hn hM (t1 : Int) z2 (-1003) (by omega) (by omega) (fun _ => by show -1 ≤ M.toldMany t1 ∧ M.toldMany t1 ≤ 200; omega) (by omega)) k_X5_bars u_ml_RX5_125 hK hN hP (by omega) hM.1 rfl rfl rfl rfl (Nat.le_of_ble_eq_true rfl) ⟨Nat.le_of_ble_eq_true rfl, Nat.le_of_ble_eq_true rfl⟩ ⟨Nat.le_of_ble_eq_true rfl, Nat.le_of_ble_eq_true rfl⟩ dX5_lastSign_3 ?_
        refine lv_istore (lv' := [(4, .int (xI (-1003))), (0, .ref (ad 53)), (1, .int (xI (t1 : Int))), (2, .int (xI z2)), (3, .int (xI z3))]) hx hb dX5_lastSign_6 hl (by decide) rfl (fun ls hl => ?_)
        refine lv_iload hx hb dX5_lastSign_8 (lv_at hl 0 rfl) ?_
        refine x_if_ge (tgt := 16) hx hb dX5_lastSign_10 (by decide) (by omega) (fun c_10 => absurd c_10 (by omega)) (fun c_10 => ?_)
        refine lv_iload hx hb dX5_lastSign_13 (lv_at hl 0 rfl) ?_
        exact xe_i hx hb hrt hlocks hP hS ((by unfold am_lastSign; simp only [Int.toNat_natCast]; rw [sp_if_f (by omega), sp_if_f (by omega), sp_if_t (by simp [hS_t1])]; exact ⟨rfl, _, hM, hR, ho⟩)) dX5_lastSign_15
      · have hz_t1 : M.toldMany t1 = -1 := by have q := hR.2.1 t1 h_t1; rw [hS_t1] at q; exact q
        refine lv_aload_n hx hb dX5_lastSign_0 rfl (lv_at hl 0 rfl) ?_
        refine lv_iload_n hx hb dX5_lastSign_1 rfl (lv_at hl 1 rfl) ?_
        refine lv_iload_n hx hb dX5_lastSign_2 rfl (lv_at hl 2 rfl) ?_
        have hy_t1 : M.toldMany (Int.toNat (t1 : Int)) = -1 := hz_t1
        refine xv_i (i := 53) (As := [.int (xI (t1 : Int)), .int (xI z2)]) (rest := []) ⟨hx, hb, hml, hown, hts⟩ hl.1 (c_X5_bars l D cA n ad en hn hM (t1 : Int) z2 (-1002) (by omega) (by omega) (fun _ => by show -1 ≤ M.toldMany t1 ∧ M.toldMany t1 ≤ 200; omega) (by omega)) k_X5_bars u_ml_RX5_125 hK hN hP (by omega) hM.1 rfl rfl rfl rfl (Nat.le_of_ble_eq_true rfl) ⟨Nat.le_of_ble_eq_true rfl, Nat.le_of_ble_eq_true rfl⟩ ⟨Nat.le_of_ble_eq_true rfl, Nat.le_of_ble_eq_true rfl⟩ dX5_lastSign_3 ?_
        refine lv_istore (lv' := [(4, .int (xI (-1002))), (0, .ref (ad 53)), (1, .int (xI (t1 : Int))), (2, .int (xI z2)), (3, .int (xI z3))]) hx hb dX5_lastSign_6 hl (by decide) rfl (fun ls hl => ?_)
        refine lv_iload hx hb dX5_lastSign_8 (lv_at hl 0 rfl) ?_
        refine x_if_ge (tgt := 16) hx hb dX5_lastSign_10 (by decide) (by omega) (fun c_10 => absurd c_10 (by omega)) (fun c_10 => ?_)
        refine lv_iload hx hb dX5_lastSign_13 (lv_at hl 0 rfl) ?_
        exact xe_i hx hb hrt hlocks hP hS ((by unfold am_lastSign; simp only [Int.toNat_natCast]; rw [sp_if_f (by omega), sp_if_t (by omega)]; exact ⟨rfl, _, hM, hR, ho⟩)) dX5_lastSign_15
    · rcases Classical.em (0 ≤ z2 ∧ z2 < 256) with hsg_z2 | hsg_z2
      · have hT_t1 : M.toldMany t1 = (r_t1.1 : Int) ∧ ∀ k : Nat, k < r_t1.1 → M.told (200 * t1 + k) = r_t1.2 k := by have q := hR.2.1 t1 h_t1; rw [hS_t1] at q; exact q
        have hz_t1 := hT_t1.1
        have hm_t1 := (hW.2.1 t1 r_t1 h_t1 hS_t1).1
        have hfb_t1 := (hW.2.1 t1 r_t1 h_t1 hS_t1).2
        refine lv_aload_n hx hb dX5_lastSign_0 rfl (lv_at hl 0 rfl) ?_
        refine lv_iload_n hx hb dX5_lastSign_1 rfl (lv_at hl 1 rfl) ?_
        refine lv_iload_n hx hb dX5_lastSign_2 rfl (lv_at hl 2 rfl) ?_
        have hy_t1 : M.toldMany (Int.toNat (t1 : Int)) = (r_t1.1 : Int) := hz_t1
        refine xv_i (i := 53) (As := [.int (xI (t1 : Int)), .int (xI z2)]) (rest := []) ⟨hx, hb, hml, hown, hts⟩ hl.1 (c_X5_bars l D cA n ad en hn hM (t1 : Int) z2 0 (by omega) (by omega) (fun _ => by show -1 ≤ M.toldMany t1 ∧ M.toldMany t1 ≤ 200; omega) (by omega)) k_X5_bars u_ml_RX5_125 hK hN hP (by omega) hM.1 rfl rfl rfl rfl (Nat.le_of_ble_eq_true rfl) ⟨Nat.le_of_ble_eq_true rfl, Nat.le_of_ble_eq_true rfl⟩ ⟨Nat.le_of_ble_eq_true rfl, Nat.le_of_ble_eq_true rfl⟩ dX5_lastSign_3 ?_
        refine lv_istore (lv' := [(4, .int (xI 0)), (0, .ref (ad 53)), (1, .int (xI (t1 : Int))), (2, .int (xI z2)), (3, .int (xI z3))]) hx hb dX5_lastSign_6 hl (by decide) rfl (fun ls hl => ?_)
        refine lv_iload hx hb dX5_lastSign_8 (lv_at hl 0 rfl) ?_
        refine x_if_ge (tgt := 16) hx hb dX5_lastSign_10 (by decide) (by omega) (fun c_10 => ?_) (fun c_10 => absurd c_10 (by omega))
        refine lv_aload_n hx hb dX5_lastSign_16 rfl (lv_at hl 1 rfl) ?_
        refine lv_iload_n hx hb dX5_lastSign_17 rfl (lv_at hl 3 rfl) ?_
        refine xm_v (i := 53) (As := [.int (xI z2)]) (rest := []) ⟨hx, hb, hml, hown, hts⟩ hl.1 (c_X5_laySign l D cA n ad en _ hn hM z2) k_X5_laySign u_ml_RX5_77 hK hN hP (by omega) hM.1 rfl rfl rfl rfl (Nat.le_of_ble_eq_true rfl) ⟨Nat.le_of_ble_eq_true rfl, Nat.le_of_ble_eq_true rfl⟩ ⟨Nat.le_of_ble_eq_true rfl, Nat.le_of_ble_eq_true rfl⟩ dX5_lastSign_18 hD hS hA (fun en1 H locs hp1 hP hS => ?_)
        obtain ⟨hM, ho2⟩ := hp1
        have hM : MW cA ad en1 (mO M.built M.builtMany M.told M.toldMany (sp_up M.row 0 z2) 1 M.figures M.partText M.partFrom M.partMany M.parts M.cut M.cutMany M.isCut M.cutGives M.cutAt M.h) := hM
        have ho := ho.tr ho2
        refine lv_aload_n hx hb dX5_lastSign_21 rfl (lv_at hl 1 rfl) ?_
        refine lv_aload_n hx hb dX5_lastSign_22 rfl (lv_at hl 1 rfl) ?_
        refine x_get (T := TX5) (N := 17) hx hb hts uX5 hown hK hP (i := 53) (by omega) (show en1 53 = .inr (5, [.ref (ad 54), .ref (ad 55), .ref (ad 56), .ref (ad 57), .ref (ad 58), .int (xI 1), .ref (ad 59), .ref (ad 60), .ref (ad 61), .ref (ad 62), .int (xI M.parts), .ref (ad 63), .ref (ad 64), .ref (ad 65), .ref (ad 66), .ref (ad 67), .long M.h]) from hM.1) rfl 2 (by decide) u_fl_RX5_16 rfl dX5_lastSign_23 ?_
        refine x_sipush hx hb dX5_lastSign_26 (by decide +kernel) ?_
        refine lv_iload_n hx hb dX5_lastSign_29 rfl (lv_at hl 2 rfl) ?_
        refine x_imul hx hb dX5_lastSign_30 ?_
        refine x_to (((200 * t1 : Nat) : Int)) (by omega) ?_
        refine lv_aload_n hx hb dX5_lastSign_31 rfl (lv_at hl 1 rfl) ?_
        refine x_get (T := TX5) (N := 17) hx hb hts uX5 hown hK hP (i := 53) (by omega) (show en1 53 = .inr (5, [.ref (ad 54), .ref (ad 55), .ref (ad 56), .ref (ad 57), .ref (ad 58), .int (xI 1), .ref (ad 59), .ref (ad 60), .ref (ad 61), .ref (ad 62), .int (xI M.parts), .ref (ad 63), .ref (ad 64), .ref (ad 65), .ref (ad 66), .ref (ad 67), .long M.h]) from hM.1) rfl 3 (by decide) u_fl_RX5_19 rfl dX5_lastSign_32 ?_
        refine lv_iload_n hx hb dX5_lastSign_35 rfl (lv_at hl 2 rfl) ?_
        refine x_ild hx hb hK hP (i := 57) (by omega) hM.2.2.2.2.1 (x := (r_t1.1 : Int)) (by omega) (congrArg xI hz_t1) dX5_lastSign_36 ?_
        refine lv_iload_n hx hb dX5_lastSign_37 rfl (lv_at hl 4 rfl) ?_
        refine xv_i (i := 53) (As := [.ref (ad 56), .int (xI ((200 * t1 : Nat) : Int)), .int (xI (r_t1.1 : Int)), .int (xI z3)]) (rest := []) ⟨hx, hb, hml, hown, hts⟩ hl.1 (c_X5_lastOf l D cA n ad en1 hn hM (q0 := 56) (L9 := 1600) (g9 := M.told) (h := (fun _ => z2)) (by omega) hM.2.2.2.1 (200 * t1) r_t1.1 (by omega) (by omega) hT_t1.2 hfb_t1 hm_t1 1 (show 1 = ((1 : Nat) : Int) from rfl) (by omega) (fun k hk => by rw [show k = 0 by omega]; exact sp_up_s M.row 0 z2) (fun k hk => by show 0 ≤ z2 ∧ z2 ≤ 255; omega) z3 (by omega)) k_X5_lastOf u_ml_RX5_115 hK hN hP (by omega) (show en1 53 = .inr (5, [.ref (ad 54), .ref (ad 55), .ref (ad 56), .ref (ad 57), .ref (ad 58), .int (xI 1), .ref (ad 59), .ref (ad 60), .ref (ad 61), .ref (ad 62), .int (xI M.parts), .ref (ad 63), .ref (ad 64), .ref (ad 65), .ref (ad 66), .ref (ad 67), .long M.h]) from hM.1) rfl rfl rfl rfl (Nat.le_of_ble_eq_true rfl) ⟨Nat.le_of_ble_eq_true rfl, Nat.le_of_ble_eq_true rfl⟩ ⟨Nat.le_of_ble_eq_true rfl, Nat.le_of_ble_eq_true rfl⟩ dX5_lastSign_38 ?_
        exact xe_i hx hb hrt hlocks hP hS ((by unfold am_lastSign; simp only [Int.toNat_natCast]; simp only [sp_get_s hS_t1]; rw [sp_if_f (by omega), sp_if_f (by omega), sp_if_f (by simp [hS_t1])]; exact ⟨congrArg xI m_rfindS, _, hM, hR, ho⟩)) dX5_lastSign_41
      · have hT_t1 : M.toldMany t1 = (r_t1.1 : Int) ∧ ∀ k : Nat, k < r_t1.1 → M.told (200 * t1 + k) = r_t1.2 k := by have q := hR.2.1 t1 h_t1; rw [hS_t1] at q; exact q
        have hz_t1 := hT_t1.1
        have hm_t1 := (hW.2.1 t1 r_t1 h_t1 hS_t1).1
        have hfb_t1 := (hW.2.1 t1 r_t1 h_t1 hS_t1).2
        refine lv_aload_n hx hb dX5_lastSign_0 rfl (lv_at hl 0 rfl) ?_
        refine lv_iload_n hx hb dX5_lastSign_1 rfl (lv_at hl 1 rfl) ?_
        refine lv_iload_n hx hb dX5_lastSign_2 rfl (lv_at hl 2 rfl) ?_
        have hy_t1 : M.toldMany (Int.toNat (t1 : Int)) = (r_t1.1 : Int) := hz_t1
        refine xv_i (i := 53) (As := [.int (xI (t1 : Int)), .int (xI z2)]) (rest := []) ⟨hx, hb, hml, hown, hts⟩ hl.1 (c_X5_bars l D cA n ad en hn hM (t1 : Int) z2 (-1002) (by omega) (by omega) (fun _ => by show -1 ≤ M.toldMany t1 ∧ M.toldMany t1 ≤ 200; omega) (by omega)) k_X5_bars u_ml_RX5_125 hK hN hP (by omega) hM.1 rfl rfl rfl rfl (Nat.le_of_ble_eq_true rfl) ⟨Nat.le_of_ble_eq_true rfl, Nat.le_of_ble_eq_true rfl⟩ ⟨Nat.le_of_ble_eq_true rfl, Nat.le_of_ble_eq_true rfl⟩ dX5_lastSign_3 ?_
        refine lv_istore (lv' := [(4, .int (xI (-1002))), (0, .ref (ad 53)), (1, .int (xI (t1 : Int))), (2, .int (xI z2)), (3, .int (xI z3))]) hx hb dX5_lastSign_6 hl (by decide) rfl (fun ls hl => ?_)
        refine lv_iload hx hb dX5_lastSign_8 (lv_at hl 0 rfl) ?_
        refine x_if_ge (tgt := 16) hx hb dX5_lastSign_10 (by decide) (by omega) (fun c_10 => absurd c_10 (by omega)) (fun c_10 => ?_)
        refine lv_iload hx hb dX5_lastSign_13 (lv_at hl 0 rfl) ?_
        exact xe_i hx hb hrt hlocks hP hS ((by unfold am_lastSign; simp only [Int.toNat_natCast]; simp only [sp_get_s hS_t1]; rw [sp_if_f (by omega), sp_if_t (by omega)]; exact ⟨rfl, _, hM, hR, ho⟩)) dX5_lastSign_15
  · rcases Classical.em (0 ≤ z2 ∧ z2 < 256) with hsg_z2 | hsg_z2
    · refine lv_aload_n hx hb dX5_lastSign_0 rfl (lv_at hl 0 rfl) ?_
      refine lv_iload_n hx hb dX5_lastSign_1 rfl (lv_at hl 1 rfl) ?_
      refine lv_iload_n hx hb dX5_lastSign_2 rfl (lv_at hl 2 rfl) ?_
      refine xv_i (i := 53) (As := [.int (xI z1), .int (xI z2)]) (rest := []) ⟨hx, hb, hml, hown, hts⟩ hl.1 (c_X5_bars l D cA n ad en hn hM z1 z2 (-1001) (by omega) (by omega) (fun h => absurd h (by omega)) (by omega)) k_X5_bars u_ml_RX5_125 hK hN hP (by omega) hM.1 rfl rfl rfl rfl (Nat.le_of_ble_eq_true rfl) ⟨Nat.le_of_ble_eq_true rfl, Nat.le_of_ble_eq_true rfl⟩ ⟨Nat.le_of_ble_eq_true rfl, Nat.le_of_ble_eq_true rfl⟩ dX5_lastSign_3 ?_
      refine lv_istore (lv' := [(4, .int (xI (-1001))), (0, .ref (ad 53)), (1, .int (xI z1)), (2, .int (xI z2)), (3, .int (xI z3))]) hx hb dX5_lastSign_6 hl (by decide) rfl (fun ls hl => ?_)
      refine lv_iload hx hb dX5_lastSign_8 (lv_at hl 0 rfl) ?_
      refine x_if_ge (tgt := 16) hx hb dX5_lastSign_10 (by decide) (by omega) (fun c_10 => absurd c_10 (by omega)) (fun c_10 => ?_)
      refine lv_iload hx hb dX5_lastSign_13 (lv_at hl 0 rfl) ?_
      exact xe_i hx hb hrt hlocks hP hS ((by unfold am_lastSign; rw [sp_if_t (by omega)]; exact ⟨rfl, _, hM, hR, ho⟩)) dX5_lastSign_15
    · refine lv_aload_n hx hb dX5_lastSign_0 rfl (lv_at hl 0 rfl) ?_
      refine lv_iload_n hx hb dX5_lastSign_1 rfl (lv_at hl 1 rfl) ?_
      refine lv_iload_n hx hb dX5_lastSign_2 rfl (lv_at hl 2 rfl) ?_
      refine xv_i (i := 53) (As := [.int (xI z1), .int (xI z2)]) (rest := []) ⟨hx, hb, hml, hown, hts⟩ hl.1 (c_X5_bars l D cA n ad en hn hM z1 z2 (-1001) (by omega) (by omega) (fun h => absurd h (by omega)) (by omega)) k_X5_bars u_ml_RX5_125 hK hN hP (by omega) hM.1 rfl rfl rfl rfl (Nat.le_of_ble_eq_true rfl) ⟨Nat.le_of_ble_eq_true rfl, Nat.le_of_ble_eq_true rfl⟩ ⟨Nat.le_of_ble_eq_true rfl, Nat.le_of_ble_eq_true rfl⟩ dX5_lastSign_3 ?_
      refine lv_istore (lv' := [(4, .int (xI (-1001))), (0, .ref (ad 53)), (1, .int (xI z1)), (2, .int (xI z2)), (3, .int (xI z3))]) hx hb dX5_lastSign_6 hl (by decide) rfl (fun ls hl => ?_)
      refine lv_iload hx hb dX5_lastSign_8 (lv_at hl 0 rfl) ?_
      refine x_if_ge (tgt := 16) hx hb dX5_lastSign_10 (by decide) (by omega) (fun c_10 => absurd c_10 (by omega)) (fun c_10 => ?_)
      refine lv_iload hx hb dX5_lastSign_13 (lv_at hl 0 rfl) ?_
      exact xe_i hx hb hrt hlocks hP hS ((by unfold am_lastSign; rw [sp_if_t (by omega)]; exact ⟨rfl, _, hM, hR, ho⟩)) dX5_lastSign_15

set_option maxRecDepth 20000 in
theorem c_X5_firstText (l : Launch) (D : va_G) (cA : Nat → ClassId) (n : Nat) (ad : Nat → Nat) (en : Nat → va_E) (sz : Nat) (hn : 68 ≤ n) {M : MO} (hM : MW cA ad en M) {S : xSt} (hW : WF S) (hR : MR S M) (z1 : Int) (hz1 : -2147483648 ≤ z1 ∧ z1 ≤ 2147483647) (z2 : Int) (hz2 : -2147483648 ≤ z2 ∧ z2 ≤ 2147483647) (z3 : Int) (hz3 : -2147483648 ≤ z3 ∧ z3 ≤ 2147483647) : Met l yX5_firstText (Cond.code yX5_firstText cX5_firstText 5 (some .int) :: xU) (xrm 3 77) (va_Pc [.ref (ad 53), .int (xI z1), .int (xI z2), .int (xI z3)] (xM D cA n ad en sz)) (va_Qi (fun r u => r = xI (am_firstText S z1 z2 z3) ∧ ∃ M' : MO, MW cA ad u M' ∧ MR S M' ∧ xO 53 68 en u) (xE D n ad) (xA n ad sz)) 0 0 (xA n ad sz) := by
  refine xmet (by decide) (Nat.le_of_ble_eq_true rfl) (fun p e s mm args below meth c ls hx hb hrt hml hown hts hlocks hname hB hl => ?_)
  obtain ⟨⟨hP, hK, hN⟩, hsz, hDt⟩ := hB
  have hD : xD (xA n ad sz) n ad := xD_self hDt sz
  have hA : ∀ q : Nat, s.heap.size ≤ q → xA n ad sz q := fun q h => Or.inr (by rw [← hsz]; exact h)
  have hS : va_S (xA n ad sz) s.heap s.heap [] := va_S.rf
  have hown : s.vm.findClass RX5 = some mm.cls := hown
  have hl : lv_has ls 5 [(0, .ref (ad 53)), (1, .int (xI z1)), (2, .int (xI z2)), (3, .int (xI z3))] := hl
  have ho : xO 53 68 en en := xO.rf
  rcases Classical.em (0 ≤ z1 ∧ z1 < 8) with hx_z1 | hx_z1
  · obtain ⟨t1, rfl⟩ : ∃ q : Nat, z1 = (q : Int) := ⟨z1.toNat, by omega⟩
    have h_t1 : t1 < 8 := by omega
    rcases hS_t1 : S.2.1 t1 with _ | r_t1
    · rcases Classical.em (0 ≤ z2 ∧ z2 < 8) with hx_z2 | hx_z2
      · obtain ⟨t2, rfl⟩ : ∃ q : Nat, z2 = (q : Int) := ⟨z2.toNat, by omega⟩
        have h_t2 : t2 < 8 := by omega
        rcases hS_t2 : S.2.1 t2 with _ | r_t2
        · have hz_t1 : M.toldMany t1 = -1 := by have q := hR.2.1 t1 h_t1; rw [hS_t1] at q; exact q
          have hz_t2 : M.toldMany t2 = -1 := by have q := hR.2.1 t2 h_t2; rw [hS_t2] at q; exact q
          refine lv_aload_n hx hb dX5_firstText_0 rfl (lv_at hl 0 rfl) ?_
          refine lv_iload_n hx hb dX5_firstText_1 rfl (lv_at hl 1 rfl) ?_
          refine lv_iload_n hx hb dX5_firstText_2 rfl (lv_at hl 2 rfl) ?_
          have hy_t1 : M.toldMany (Int.toNat (t1 : Int)) = -1 := hz_t1
          have hy_t2 : M.toldMany (Int.toNat (t2 : Int)) = -1 := hz_t2
          refine xv_i (i := 53) (As := [.int (xI (t1 : Int)), .int (xI (t2 : Int))]) (rest := []) ⟨hx, hb, hml, hown, hts⟩ hl.1 (c_X5_barsTwo l D cA n ad en hn hM (t1 : Int) (t2 : Int) (-1003) (by omega) (by omega) (fun _ => by show -1 ≤ M.toldMany t1 ∧ M.toldMany t1 ≤ 200; omega) (fun _ => by show -1 ≤ M.toldMany t2 ∧ M.toldMany t2 ≤ 200; omega) (by omega)) k_X5_barsTwo u_ml_RX5_128 hK hN hP (by omega) hM.1 rfl rfl rfl rfl (Nat.le_of_ble_eq_true rfl) ⟨Nat.le_of_ble_eq_true rfl, Nat.le_of_ble_eq_true rfl⟩ ⟨Nat.le_of_ble_eq_true rfl, Nat.le_of_ble_eq_true rfl⟩ dX5_firstText_3 ?_
          refine lv_istore (lv' := [(4, .int (xI (-1003))), (0, .ref (ad 53)), (1, .int (xI (t1 : Int))), (2, .int (xI (t2 : Int))), (3, .int (xI z3))]) hx hb dX5_firstText_6 hl (by decide) rfl (fun ls hl => ?_)
          refine lv_iload hx hb dX5_firstText_8 (lv_at hl 0 rfl) ?_
          refine x_if_ge (tgt := 16) hx hb dX5_firstText_10 (by decide) (by omega) (fun c_10 => absurd c_10 (by omega)) (fun c_10 => ?_)
          refine lv_iload hx hb dX5_firstText_13 (lv_at hl 0 rfl) ?_
          exact xe_i hx hb hrt hlocks hP hS ((by unfold am_firstText; simp only [Int.toNat_natCast]; rw [sp_if_f (by omega), sp_if_t (by simp [hS_t1, hS_t2])]; exact ⟨rfl, _, hM, hR, ho⟩)) dX5_firstText_15
        · have hz_t1 : M.toldMany t1 = -1 := by have q := hR.2.1 t1 h_t1; rw [hS_t1] at q; exact q
          have hT_t2 : M.toldMany t2 = (r_t2.1 : Int) ∧ ∀ k : Nat, k < r_t2.1 → M.told (200 * t2 + k) = r_t2.2 k := by have q := hR.2.1 t2 h_t2; rw [hS_t2] at q; exact q
          have hz_t2 := hT_t2.1
          have hm_t2 := (hW.2.1 t2 r_t2 h_t2 hS_t2).1
          have hfb_t2 := (hW.2.1 t2 r_t2 h_t2 hS_t2).2
          refine lv_aload_n hx hb dX5_firstText_0 rfl (lv_at hl 0 rfl) ?_
          refine lv_iload_n hx hb dX5_firstText_1 rfl (lv_at hl 1 rfl) ?_
          refine lv_iload_n hx hb dX5_firstText_2 rfl (lv_at hl 2 rfl) ?_
          have hy_t1 : M.toldMany (Int.toNat (t1 : Int)) = -1 := hz_t1
          have hy_t2 : M.toldMany (Int.toNat (t2 : Int)) = (r_t2.1 : Int) := hz_t2
          refine xv_i (i := 53) (As := [.int (xI (t1 : Int)), .int (xI (t2 : Int))]) (rest := []) ⟨hx, hb, hml, hown, hts⟩ hl.1 (c_X5_barsTwo l D cA n ad en hn hM (t1 : Int) (t2 : Int) (-1003) (by omega) (by omega) (fun _ => by show -1 ≤ M.toldMany t1 ∧ M.toldMany t1 ≤ 200; omega) (fun _ => by show -1 ≤ M.toldMany t2 ∧ M.toldMany t2 ≤ 200; omega) (by omega)) k_X5_barsTwo u_ml_RX5_128 hK hN hP (by omega) hM.1 rfl rfl rfl rfl (Nat.le_of_ble_eq_true rfl) ⟨Nat.le_of_ble_eq_true rfl, Nat.le_of_ble_eq_true rfl⟩ ⟨Nat.le_of_ble_eq_true rfl, Nat.le_of_ble_eq_true rfl⟩ dX5_firstText_3 ?_
          refine lv_istore (lv' := [(4, .int (xI (-1003))), (0, .ref (ad 53)), (1, .int (xI (t1 : Int))), (2, .int (xI (t2 : Int))), (3, .int (xI z3))]) hx hb dX5_firstText_6 hl (by decide) rfl (fun ls hl => ?_)
          refine lv_iload hx hb dX5_firstText_8 (lv_at hl 0 rfl) ?_
          refine x_if_ge (tgt := 16) hx hb dX5_firstText_10 (by decide) (by omega) (fun c_10 => absurd c_10 (by omega)) (fun c_10 => ?_)
          refine lv_iload hx hb dX5_firstText_13 (lv_at hl 0 rfl) ?_
          exact xe_i hx hb hrt hlocks hP hS ((by unfold am_firstText; simp only [Int.toNat_natCast]; simp only [sp_get_s hS_t2]; rw [sp_if_f (by omega), sp_if_t (by simp [hS_t1, hS_t2])]; exact ⟨rfl, _, hM, hR, ho⟩)) dX5_firstText_15
      · have hz_t1 : M.toldMany t1 = -1 := by have q := hR.2.1 t1 h_t1; rw [hS_t1] at q; exact q
        refine lv_aload_n hx hb dX5_firstText_0 rfl (lv_at hl 0 rfl) ?_
        refine lv_iload_n hx hb dX5_firstText_1 rfl (lv_at hl 1 rfl) ?_
        refine lv_iload_n hx hb dX5_firstText_2 rfl (lv_at hl 2 rfl) ?_
        have hy_t1 : M.toldMany (Int.toNat (t1 : Int)) = -1 := hz_t1
        refine xv_i (i := 53) (As := [.int (xI (t1 : Int)), .int (xI z2)]) (rest := []) ⟨hx, hb, hml, hown, hts⟩ hl.1 (c_X5_barsTwo l D cA n ad en hn hM (t1 : Int) z2 (-1001) (by omega) (by omega) (fun _ => by show -1 ≤ M.toldMany t1 ∧ M.toldMany t1 ≤ 200; omega) (fun h => absurd h (by omega)) (by omega)) k_X5_barsTwo u_ml_RX5_128 hK hN hP (by omega) hM.1 rfl rfl rfl rfl (Nat.le_of_ble_eq_true rfl) ⟨Nat.le_of_ble_eq_true rfl, Nat.le_of_ble_eq_true rfl⟩ ⟨Nat.le_of_ble_eq_true rfl, Nat.le_of_ble_eq_true rfl⟩ dX5_firstText_3 ?_
        refine lv_istore (lv' := [(4, .int (xI (-1001))), (0, .ref (ad 53)), (1, .int (xI (t1 : Int))), (2, .int (xI z2)), (3, .int (xI z3))]) hx hb dX5_firstText_6 hl (by decide) rfl (fun ls hl => ?_)
        refine lv_iload hx hb dX5_firstText_8 (lv_at hl 0 rfl) ?_
        refine x_if_ge (tgt := 16) hx hb dX5_firstText_10 (by decide) (by omega) (fun c_10 => absurd c_10 (by omega)) (fun c_10 => ?_)
        refine lv_iload hx hb dX5_firstText_13 (lv_at hl 0 rfl) ?_
        exact xe_i hx hb hrt hlocks hP hS ((by unfold am_firstText; simp only [Int.toNat_natCast]; rw [sp_if_t (by omega)]; exact ⟨rfl, _, hM, hR, ho⟩)) dX5_firstText_15
    · rcases Classical.em (0 ≤ z2 ∧ z2 < 8) with hx_z2 | hx_z2
      · obtain ⟨t2, rfl⟩ : ∃ q : Nat, z2 = (q : Int) := ⟨z2.toNat, by omega⟩
        have h_t2 : t2 < 8 := by omega
        rcases hS_t2 : S.2.1 t2 with _ | r_t2
        · have hT_t1 : M.toldMany t1 = (r_t1.1 : Int) ∧ ∀ k : Nat, k < r_t1.1 → M.told (200 * t1 + k) = r_t1.2 k := by have q := hR.2.1 t1 h_t1; rw [hS_t1] at q; exact q
          have hz_t1 := hT_t1.1
          have hm_t1 := (hW.2.1 t1 r_t1 h_t1 hS_t1).1
          have hfb_t1 := (hW.2.1 t1 r_t1 h_t1 hS_t1).2
          have hz_t2 : M.toldMany t2 = -1 := by have q := hR.2.1 t2 h_t2; rw [hS_t2] at q; exact q
          refine lv_aload_n hx hb dX5_firstText_0 rfl (lv_at hl 0 rfl) ?_
          refine lv_iload_n hx hb dX5_firstText_1 rfl (lv_at hl 1 rfl) ?_
          refine lv_iload_n hx hb dX5_firstText_2 rfl (lv_at hl 2 rfl) ?_
          have hy_t1 : M.toldMany (Int.toNat (t1 : Int)) = (r_t1.1 : Int) := hz_t1
          have hy_t2 : M.toldMany (Int.toNat (t2 : Int)) = -1 := hz_t2
          refine xv_i (i := 53) (As := [.int (xI (t1 : Int)), .int (xI (t2 : Int))]) (rest := []) ⟨hx, hb, hml, hown, hts⟩ hl.1 (c_X5_barsTwo l D cA n ad en hn hM (t1 : Int) (t2 : Int) (-1003) (by omega) (by omega) (fun _ => by show -1 ≤ M.toldMany t1 ∧ M.toldMany t1 ≤ 200; omega) (fun _ => by show -1 ≤ M.toldMany t2 ∧ M.toldMany t2 ≤ 200; omega) (by omega)) k_X5_barsTwo u_ml_RX5_128 hK hN hP (by omega) hM.1 rfl rfl rfl rfl (Nat.le_of_ble_eq_true rfl) ⟨Nat.le_of_ble_eq_true rfl, Nat.le_of_ble_eq_true rfl⟩ ⟨Nat.le_of_ble_eq_true rfl, Nat.le_of_ble_eq_true rfl⟩ dX5_firstText_3 ?_
          refine lv_istore (lv' := [(4, .int (xI (-1003))), (0, .ref (ad 53)), (1, .int (xI (t1 : Int))), (2, .int (xI (t2 : Int))), (3, .int (xI z3))]) hx hb dX5_firstText_6 hl (by decide) rfl (fun ls hl => ?_)
          refine lv_iload hx hb dX5_firstText_8 (lv_at hl 0 rfl) ?_
          refine x_if_ge (tgt := 16) hx hb dX5_firstText_10 (by decide) (by omega) (fun c_10 => absurd c_10 (by omega)) (fun c_10 => ?_)
          refine lv_iload hx hb dX5_firstText_13 (lv_at hl 0 rfl) ?_
          exact xe_i hx hb hrt hlocks hP hS ((by unfold am_firstText; simp only [Int.toNat_natCast]; simp only [sp_get_s hS_t1]; rw [sp_if_f (by omega), sp_if_t (by simp [hS_t1, hS_t2])]; exact ⟨rfl, _, hM, hR, ho⟩)) dX5_firstText_15
        · have hT_t1 : M.toldMany t1 = (r_t1.1 : Int) ∧ ∀ k : Nat, k < r_t1.1 → M.told (200 * t1 + k) = r_t1.2 k := by have q := hR.2.1 t1 h_t1; rw [hS_t1] at q; exact q
          have hz_t1 := hT_t1.1
          have hm_t1 := (hW.2.1 t1 r_t1 h_t1 hS_t1).1
          have hfb_t1 := (hW.2.1 t1 r_t1 h_t1 hS_t1).2
          have hT_t2 : M.toldMany t2 = (r_t2.1 : Int) ∧ ∀ k : Nat, k < r_t2.1 → M.told (200 * t2 + k) = r_t2.2 k := by have q := hR.2.1 t2 h_t2; rw [hS_t2] at q; exact q
          have hz_t2 := hT_t2.1
          have hm_t2 := (hW.2.1 t2 r_t2 h_t2 hS_t2).1
          have hfb_t2 := (hW.2.1 t2 r_t2 h_t2 hS_t2).2
          refine lv_aload_n hx hb dX5_firstText_0 rfl (lv_at hl 0 rfl) ?_
          refine lv_iload_n hx hb dX5_firstText_1 rfl (lv_at hl 1 rfl) ?_
          refine lv_iload_n hx hb dX5_firstText_2 rfl (lv_at hl 2 rfl) ?_
          have hy_t1 : M.toldMany (Int.toNat (t1 : Int)) = (r_t1.1 : Int) := hz_t1
          have hy_t2 : M.toldMany (Int.toNat (t2 : Int)) = (r_t2.1 : Int) := hz_t2
          refine xv_i (i := 53) (As := [.int (xI (t1 : Int)), .int (xI (t2 : Int))]) (rest := []) ⟨hx, hb, hml, hown, hts⟩ hl.1 (c_X5_barsTwo l D cA n ad en hn hM (t1 : Int) (t2 : Int) 0 (by omega) (by omega) (fun _ => by show -1 ≤ M.toldMany t1 ∧ M.toldMany t1 ≤ 200; omega) (fun _ => by show -1 ≤ M.toldMany t2 ∧ M.toldMany t2 ≤ 200; omega) (by omega)) k_X5_barsTwo u_ml_RX5_128 hK hN hP (by omega) hM.1 rfl rfl rfl rfl (Nat.le_of_ble_eq_true rfl) ⟨Nat.le_of_ble_eq_true rfl, Nat.le_of_ble_eq_true rfl⟩ ⟨Nat.le_of_ble_eq_true rfl, Nat.le_of_ble_eq_true rfl⟩ dX5_firstText_3 ?_
          refine lv_istore (lv' := [(4, .int (xI 0)), (0, .ref (ad 53)), (1, .int (xI (t1 : Int))), (2, .int (xI (t2 : Int))), (3, .int (xI z3))]) hx hb dX5_firstText_6 hl (by decide) rfl (fun ls hl => ?_)
          refine lv_iload hx hb dX5_firstText_8 (lv_at hl 0 rfl) ?_
          refine x_if_ge (tgt := 16) hx hb dX5_firstText_10 (by decide) (by omega) (fun c_10 => ?_) (fun c_10 => absurd c_10 (by omega))
          refine lv_aload_n hx hb dX5_firstText_16 rfl (lv_at hl 1 rfl) ?_
          refine lv_iload_n hx hb dX5_firstText_17 rfl (lv_at hl 3 rfl) ?_
          refine xm_v (i := 53) (As := [.int (xI (t2 : Int))]) (rest := []) ⟨hx, hb, hml, hown, hts⟩ hl.1 (c_X5_layText_some l D cA n ad en _ hn hM t2 h_t2 (r := r_t2) hz_t2 hm_t2 hT_t2.2) k_X5_layText u_ml_RX5_90 hK hN hP (by omega) hM.1 rfl rfl rfl rfl (Nat.le_of_ble_eq_true rfl) ⟨Nat.le_of_ble_eq_true rfl, Nat.le_of_ble_eq_true rfl⟩ ⟨Nat.le_of_ble_eq_true rfl, Nat.le_of_ble_eq_true rfl⟩ dX5_firstText_18 hD hS hA (fun en1 H locs hp1 hP hS => ?_)
          obtain ⟨F9, hF9, hM, ho2⟩ := hp1
          have hM : MW cA ad en1 (mO M.built M.builtMany M.told M.toldMany F9 (r_t2.1 : Int) M.figures M.partText M.partFrom M.partMany M.parts M.cut M.cutMany M.isCut M.cutGives M.cutAt M.h) := hM
          have ho := ho.tr ho2
          refine lv_aload_n hx hb dX5_firstText_21 rfl (lv_at hl 1 rfl) ?_
          refine lv_aload_n hx hb dX5_firstText_22 rfl (lv_at hl 1 rfl) ?_
          refine x_get (T := TX5) (N := 17) hx hb hts uX5 hown hK hP (i := 53) (by omega) (show en1 53 = .inr (5, [.ref (ad 54), .ref (ad 55), .ref (ad 56), .ref (ad 57), .ref (ad 58), .int (xI (r_t2.1 : Int)), .ref (ad 59), .ref (ad 60), .ref (ad 61), .ref (ad 62), .int (xI M.parts), .ref (ad 63), .ref (ad 64), .ref (ad 65), .ref (ad 66), .ref (ad 67), .long M.h]) from hM.1) rfl 2 (by decide) u_fl_RX5_16 rfl dX5_firstText_23 ?_
          refine x_sipush hx hb dX5_firstText_26 (by decide +kernel) ?_
          refine lv_iload_n hx hb dX5_firstText_29 rfl (lv_at hl 2 rfl) ?_
          refine x_imul hx hb dX5_firstText_30 ?_
          refine x_to (((200 * t1 : Nat) : Int)) (by omega) ?_
          refine lv_aload_n hx hb dX5_firstText_31 rfl (lv_at hl 1 rfl) ?_
          refine x_get (T := TX5) (N := 17) hx hb hts uX5 hown hK hP (i := 53) (by omega) (show en1 53 = .inr (5, [.ref (ad 54), .ref (ad 55), .ref (ad 56), .ref (ad 57), .ref (ad 58), .int (xI (r_t2.1 : Int)), .ref (ad 59), .ref (ad 60), .ref (ad 61), .ref (ad 62), .int (xI M.parts), .ref (ad 63), .ref (ad 64), .ref (ad 65), .ref (ad 66), .ref (ad 67), .long M.h]) from hM.1) rfl 3 (by decide) u_fl_RX5_19 rfl dX5_firstText_32 ?_
          refine lv_iload_n hx hb dX5_firstText_35 rfl (lv_at hl 2 rfl) ?_
          refine x_ild hx hb hK hP (i := 57) (by omega) hM.2.2.2.2.1 (x := (r_t1.1 : Int)) (by omega) (congrArg xI hz_t1) dX5_firstText_36 ?_
          refine lv_iload_n hx hb dX5_firstText_37 rfl (lv_at hl 4 rfl) ?_
          refine xv_i (i := 53) (As := [.ref (ad 56), .int (xI ((200 * t1 : Nat) : Int)), .int (xI (r_t1.1 : Int)), .int (xI z3)]) (rest := []) ⟨hx, hb, hml, hown, hts⟩ hl.1 (c_X5_firstOf l D cA n ad en1 hn hM (q0 := 56) (L9 := 1600) (g9 := M.told) (h := r_t2.2) (by omega) hM.2.2.2.1 (200 * t1) r_t1.1 (by omega) (by omega) hT_t1.2 hfb_t1 hm_t1 r_t2.1 (show (r_t2.1 : Int) = ((r_t2.1 : Nat) : Int) from rfl) (by omega) hF9 (fun k hk => hfb_t2 k hk) z3 (by omega)) k_X5_firstOf u_ml_RX5_111 hK hN hP (by omega) (show en1 53 = .inr (5, [.ref (ad 54), .ref (ad 55), .ref (ad 56), .ref (ad 57), .ref (ad 58), .int (xI (r_t2.1 : Int)), .ref (ad 59), .ref (ad 60), .ref (ad 61), .ref (ad 62), .int (xI M.parts), .ref (ad 63), .ref (ad 64), .ref (ad 65), .ref (ad 66), .ref (ad 67), .long M.h]) from hM.1) rfl rfl rfl rfl (Nat.le_of_ble_eq_true rfl) ⟨Nat.le_of_ble_eq_true rfl, Nat.le_of_ble_eq_true rfl⟩ ⟨Nat.le_of_ble_eq_true rfl, Nat.le_of_ble_eq_true rfl⟩ dX5_firstText_38 ?_
          exact xe_i hx hb hrt hlocks hP hS ((by unfold am_firstText; simp only [Int.toNat_natCast]; simp only [sp_get_s hS_t1, sp_get_s hS_t2]; rw [sp_if_f (by omega), sp_if_f (by simp [hS_t1, hS_t2])]; exact ⟨rfl, _, hM, hR, ho⟩)) dX5_firstText_41
      · have hT_t1 : M.toldMany t1 = (r_t1.1 : Int) ∧ ∀ k : Nat, k < r_t1.1 → M.told (200 * t1 + k) = r_t1.2 k := by have q := hR.2.1 t1 h_t1; rw [hS_t1] at q; exact q
        have hz_t1 := hT_t1.1
        have hm_t1 := (hW.2.1 t1 r_t1 h_t1 hS_t1).1
        have hfb_t1 := (hW.2.1 t1 r_t1 h_t1 hS_t1).2
        refine lv_aload_n hx hb dX5_firstText_0 rfl (lv_at hl 0 rfl) ?_
        refine lv_iload_n hx hb dX5_firstText_1 rfl (lv_at hl 1 rfl) ?_
        refine lv_iload_n hx hb dX5_firstText_2 rfl (lv_at hl 2 rfl) ?_
        have hy_t1 : M.toldMany (Int.toNat (t1 : Int)) = (r_t1.1 : Int) := hz_t1
        refine xv_i (i := 53) (As := [.int (xI (t1 : Int)), .int (xI z2)]) (rest := []) ⟨hx, hb, hml, hown, hts⟩ hl.1 (c_X5_barsTwo l D cA n ad en hn hM (t1 : Int) z2 (-1001) (by omega) (by omega) (fun _ => by show -1 ≤ M.toldMany t1 ∧ M.toldMany t1 ≤ 200; omega) (fun h => absurd h (by omega)) (by omega)) k_X5_barsTwo u_ml_RX5_128 hK hN hP (by omega) hM.1 rfl rfl rfl rfl (Nat.le_of_ble_eq_true rfl) ⟨Nat.le_of_ble_eq_true rfl, Nat.le_of_ble_eq_true rfl⟩ ⟨Nat.le_of_ble_eq_true rfl, Nat.le_of_ble_eq_true rfl⟩ dX5_firstText_3 ?_
        refine lv_istore (lv' := [(4, .int (xI (-1001))), (0, .ref (ad 53)), (1, .int (xI (t1 : Int))), (2, .int (xI z2)), (3, .int (xI z3))]) hx hb dX5_firstText_6 hl (by decide) rfl (fun ls hl => ?_)
        refine lv_iload hx hb dX5_firstText_8 (lv_at hl 0 rfl) ?_
        refine x_if_ge (tgt := 16) hx hb dX5_firstText_10 (by decide) (by omega) (fun c_10 => absurd c_10 (by omega)) (fun c_10 => ?_)
        refine lv_iload hx hb dX5_firstText_13 (lv_at hl 0 rfl) ?_
        exact xe_i hx hb hrt hlocks hP hS ((by unfold am_firstText; simp only [Int.toNat_natCast]; simp only [sp_get_s hS_t1]; rw [sp_if_t (by omega)]; exact ⟨rfl, _, hM, hR, ho⟩)) dX5_firstText_15
  · rcases Classical.em (0 ≤ z2 ∧ z2 < 8) with hx_z2 | hx_z2
    · obtain ⟨t2, rfl⟩ : ∃ q : Nat, z2 = (q : Int) := ⟨z2.toNat, by omega⟩
      have h_t2 : t2 < 8 := by omega
      rcases hS_t2 : S.2.1 t2 with _ | r_t2
      · have hz_t2 : M.toldMany t2 = -1 := by have q := hR.2.1 t2 h_t2; rw [hS_t2] at q; exact q
        refine lv_aload_n hx hb dX5_firstText_0 rfl (lv_at hl 0 rfl) ?_
        refine lv_iload_n hx hb dX5_firstText_1 rfl (lv_at hl 1 rfl) ?_
        refine lv_iload_n hx hb dX5_firstText_2 rfl (lv_at hl 2 rfl) ?_
        have hy_t2 : M.toldMany (Int.toNat (t2 : Int)) = -1 := hz_t2
        refine xv_i (i := 53) (As := [.int (xI z1), .int (xI (t2 : Int))]) (rest := []) ⟨hx, hb, hml, hown, hts⟩ hl.1 (c_X5_barsTwo l D cA n ad en hn hM z1 (t2 : Int) (-1001) (by omega) (by omega) (fun h => absurd h (by omega)) (fun _ => by show -1 ≤ M.toldMany t2 ∧ M.toldMany t2 ≤ 200; omega) (by omega)) k_X5_barsTwo u_ml_RX5_128 hK hN hP (by omega) hM.1 rfl rfl rfl rfl (Nat.le_of_ble_eq_true rfl) ⟨Nat.le_of_ble_eq_true rfl, Nat.le_of_ble_eq_true rfl⟩ ⟨Nat.le_of_ble_eq_true rfl, Nat.le_of_ble_eq_true rfl⟩ dX5_firstText_3 ?_
        refine lv_istore (lv' := [(4, .int (xI (-1001))), (0, .ref (ad 53)), (1, .int (xI z1)), (2, .int (xI (t2 : Int))), (3, .int (xI z3))]) hx hb dX5_firstText_6 hl (by decide) rfl (fun ls hl => ?_)
        refine lv_iload hx hb dX5_firstText_8 (lv_at hl 0 rfl) ?_
        refine x_if_ge (tgt := 16) hx hb dX5_firstText_10 (by decide) (by omega) (fun c_10 => absurd c_10 (by omega)) (fun c_10 => ?_)
        refine lv_iload hx hb dX5_firstText_13 (lv_at hl 0 rfl) ?_
        exact xe_i hx hb hrt hlocks hP hS ((by unfold am_firstText; simp only [Int.toNat_natCast]; rw [sp_if_t (by omega)]; exact ⟨rfl, _, hM, hR, ho⟩)) dX5_firstText_15
      · have hT_t2 : M.toldMany t2 = (r_t2.1 : Int) ∧ ∀ k : Nat, k < r_t2.1 → M.told (200 * t2 + k) = r_t2.2 k := by have q := hR.2.1 t2 h_t2; rw [hS_t2] at q; exact q
        have hz_t2 := hT_t2.1
        have hm_t2 := (hW.2.1 t2 r_t2 h_t2 hS_t2).1
        have hfb_t2 := (hW.2.1 t2 r_t2 h_t2 hS_t2).2
        refine lv_aload_n hx hb dX5_firstText_0 rfl (lv_at hl 0 rfl) ?_
        refine lv_iload_n hx hb dX5_firstText_1 rfl (lv_at hl 1 rfl) ?_
        refine lv_iload_n hx hb dX5_firstText_2 rfl (lv_at hl 2 rfl) ?_
        have hy_t2 : M.toldMany (Int.toNat (t2 : Int)) = (r_t2.1 : Int) := hz_t2
        refine xv_i (i := 53) (As := [.int (xI z1), .int (xI (t2 : Int))]) (rest := []) ⟨hx, hb, hml, hown, hts⟩ hl.1 (c_X5_barsTwo l D cA n ad en hn hM z1 (t2 : Int) (-1001) (by omega) (by omega) (fun h => absurd h (by omega)) (fun _ => by show -1 ≤ M.toldMany t2 ∧ M.toldMany t2 ≤ 200; omega) (by omega)) k_X5_barsTwo u_ml_RX5_128 hK hN hP (by omega) hM.1 rfl rfl rfl rfl (Nat.le_of_ble_eq_true rfl) ⟨Nat.le_of_ble_eq_true rfl, Nat.le_of_ble_eq_true rfl⟩ ⟨Nat.le_of_ble_eq_true rfl, Nat.le_of_ble_eq_true rfl⟩ dX5_firstText_3 ?_
        refine lv_istore (lv' := [(4, .int (xI (-1001))), (0, .ref (ad 53)), (1, .int (xI z1)), (2, .int (xI (t2 : Int))), (3, .int (xI z3))]) hx hb dX5_firstText_6 hl (by decide) rfl (fun ls hl => ?_)
        refine lv_iload hx hb dX5_firstText_8 (lv_at hl 0 rfl) ?_
        refine x_if_ge (tgt := 16) hx hb dX5_firstText_10 (by decide) (by omega) (fun c_10 => absurd c_10 (by omega)) (fun c_10 => ?_)
        refine lv_iload hx hb dX5_firstText_13 (lv_at hl 0 rfl) ?_
        exact xe_i hx hb hrt hlocks hP hS ((by unfold am_firstText; simp only [Int.toNat_natCast]; simp only [sp_get_s hS_t2]; rw [sp_if_t (by omega)]; exact ⟨rfl, _, hM, hR, ho⟩)) dX5_firstText_15
    · refine lv_aload_n hx hb dX5_firstText_0 rfl (lv_at hl 0 rfl) ?_
      refine lv_iload_n hx hb dX5_firstText_1 rfl (lv_at hl 1 rfl) ?_
      refine lv_iload_n hx hb dX5_firstText_2 rfl (lv_at hl 2 rfl) ?_
      refine xv_i (i := 53) (As := [.int (xI z1), .int (xI z2)]) (rest := []) ⟨hx, hb, hml, hown, hts⟩ hl.1 (c_X5_barsTwo l D cA n ad en hn hM z1 z2 (-1001) (by omega) (by omega) (fun h => absurd h (by omega)) (fun h => absurd h (by omega)) (by omega)) k_X5_barsTwo u_ml_RX5_128 hK hN hP (by omega) hM.1 rfl rfl rfl rfl (Nat.le_of_ble_eq_true rfl) ⟨Nat.le_of_ble_eq_true rfl, Nat.le_of_ble_eq_true rfl⟩ ⟨Nat.le_of_ble_eq_true rfl, Nat.le_of_ble_eq_true rfl⟩ dX5_firstText_3 ?_
      refine lv_istore (lv' := [(4, .int (xI (-1001))), (0, .ref (ad 53)), (1, .int (xI z1)), (2, .int (xI z2)), (3, .int (xI z3))]) hx hb dX5_firstText_6 hl (by decide) rfl (fun ls hl => ?_)
      refine lv_iload hx hb dX5_firstText_8 (lv_at hl 0 rfl) ?_
      refine x_if_ge (tgt := 16) hx hb dX5_firstText_10 (by decide) (by omega) (fun c_10 => absurd c_10 (by omega)) (fun c_10 => ?_)
      refine lv_iload hx hb dX5_firstText_13 (lv_at hl 0 rfl) ?_
      exact xe_i hx hb hrt hlocks hP hS ((by unfold am_firstText; rw [sp_if_t (by omega)]; exact ⟨rfl, _, hM, hR, ho⟩)) dX5_firstText_15

set_option maxRecDepth 20000 in
theorem c_X5_lastText (l : Launch) (D : va_G) (cA : Nat → ClassId) (n : Nat) (ad : Nat → Nat) (en : Nat → va_E) (sz : Nat) (hn : 68 ≤ n) {M : MO} (hM : MW cA ad en M) {S : xSt} (hW : WF S) (hR : MR S M) (z1 : Int) (hz1 : -2147483648 ≤ z1 ∧ z1 ≤ 2147483647) (z2 : Int) (hz2 : -2147483648 ≤ z2 ∧ z2 ≤ 2147483647) (z3 : Int) (hz3 : -2147483648 ≤ z3 ∧ z3 ≤ 2147483647) : Met l yX5_lastText (Cond.code yX5_lastText cX5_lastText 5 (some .int) :: xU) (xrm 3 76) (va_Pc [.ref (ad 53), .int (xI z1), .int (xI z2), .int (xI z3)] (xM D cA n ad en sz)) (va_Qi (fun r u => r = xI (am_lastText S z1 z2 z3) ∧ ∃ M' : MO, MW cA ad u M' ∧ MR S M' ∧ xO 53 68 en u) (xE D n ad) (xA n ad sz)) 0 0 (xA n ad sz) := by
  refine xmet (by decide) (Nat.le_of_ble_eq_true rfl) (fun p e s mm args below meth c ls hx hb hrt hml hown hts hlocks hname hB hl => ?_)
  obtain ⟨⟨hP, hK, hN⟩, hsz, hDt⟩ := hB
  have hD : xD (xA n ad sz) n ad := xD_self hDt sz
  have hA : ∀ q : Nat, s.heap.size ≤ q → xA n ad sz q := fun q h => Or.inr (by rw [← hsz]; exact h)
  have hS : va_S (xA n ad sz) s.heap s.heap [] := va_S.rf
  have hown : s.vm.findClass RX5 = some mm.cls := hown
  have hl : lv_has ls 5 [(0, .ref (ad 53)), (1, .int (xI z1)), (2, .int (xI z2)), (3, .int (xI z3))] := hl
  have ho : xO 53 68 en en := xO.rf
  rcases Classical.em (0 ≤ z1 ∧ z1 < 8) with hx_z1 | hx_z1
  · obtain ⟨t1, rfl⟩ : ∃ q : Nat, z1 = (q : Int) := ⟨z1.toNat, by omega⟩
    have h_t1 : t1 < 8 := by omega
    rcases hS_t1 : S.2.1 t1 with _ | r_t1
    · rcases Classical.em (0 ≤ z2 ∧ z2 < 8) with hx_z2 | hx_z2
      · obtain ⟨t2, rfl⟩ : ∃ q : Nat, z2 = (q : Int) := ⟨z2.toNat, by omega⟩
        have h_t2 : t2 < 8 := by omega
        rcases hS_t2 : S.2.1 t2 with _ | r_t2
        · have hz_t1 : M.toldMany t1 = -1 := by have q := hR.2.1 t1 h_t1; rw [hS_t1] at q; exact q
          have hz_t2 : M.toldMany t2 = -1 := by have q := hR.2.1 t2 h_t2; rw [hS_t2] at q; exact q
          refine lv_aload_n hx hb dX5_lastText_0 rfl (lv_at hl 0 rfl) ?_
          refine lv_iload_n hx hb dX5_lastText_1 rfl (lv_at hl 1 rfl) ?_
          refine lv_iload_n hx hb dX5_lastText_2 rfl (lv_at hl 2 rfl) ?_
          have hy_t1 : M.toldMany (Int.toNat (t1 : Int)) = -1 := hz_t1
          have hy_t2 : M.toldMany (Int.toNat (t2 : Int)) = -1 := hz_t2
          refine xv_i (i := 53) (As := [.int (xI (t1 : Int)), .int (xI (t2 : Int))]) (rest := []) ⟨hx, hb, hml, hown, hts⟩ hl.1 (c_X5_barsTwo l D cA n ad en hn hM (t1 : Int) (t2 : Int) (-1003) (by omega) (by omega) (fun _ => by show -1 ≤ M.toldMany t1 ∧ M.toldMany t1 ≤ 200; omega) (fun _ => by show -1 ≤ M.toldMany t2 ∧ M.toldMany t2 ≤ 200; omega) (by omega)) k_X5_barsTwo u_ml_RX5_128 hK hN hP (by omega) hM.1 rfl rfl rfl rfl (Nat.le_of_ble_eq_true rfl) ⟨Nat.le_of_ble_eq_true rfl, Nat.le_of_ble_eq_true rfl⟩ ⟨Nat.le_of_ble_eq_true rfl, Nat.le_of_ble_eq_true rfl⟩ dX5_lastText_3 ?_
          refine lv_istore (lv' := [(4, .int (xI (-1003))), (0, .ref (ad 53)), (1, .int (xI (t1 : Int))), (2, .int (xI (t2 : Int))), (3, .int (xI z3))]) hx hb dX5_lastText_6 hl (by decide) rfl (fun ls hl => ?_)
          refine lv_iload hx hb dX5_lastText_8 (lv_at hl 0 rfl) ?_
          refine x_if_ge (tgt := 16) hx hb dX5_lastText_10 (by decide) (by omega) (fun c_10 => absurd c_10 (by omega)) (fun c_10 => ?_)
          refine lv_iload hx hb dX5_lastText_13 (lv_at hl 0 rfl) ?_
          exact xe_i hx hb hrt hlocks hP hS ((by unfold am_lastText; simp only [Int.toNat_natCast]; rw [sp_if_f (by omega), sp_if_t (by simp [hS_t1, hS_t2])]; exact ⟨rfl, _, hM, hR, ho⟩)) dX5_lastText_15
        · have hz_t1 : M.toldMany t1 = -1 := by have q := hR.2.1 t1 h_t1; rw [hS_t1] at q; exact q
          have hT_t2 : M.toldMany t2 = (r_t2.1 : Int) ∧ ∀ k : Nat, k < r_t2.1 → M.told (200 * t2 + k) = r_t2.2 k := by have q := hR.2.1 t2 h_t2; rw [hS_t2] at q; exact q
          have hz_t2 := hT_t2.1
          have hm_t2 := (hW.2.1 t2 r_t2 h_t2 hS_t2).1
          have hfb_t2 := (hW.2.1 t2 r_t2 h_t2 hS_t2).2
          refine lv_aload_n hx hb dX5_lastText_0 rfl (lv_at hl 0 rfl) ?_
          refine lv_iload_n hx hb dX5_lastText_1 rfl (lv_at hl 1 rfl) ?_
          refine lv_iload_n hx hb dX5_lastText_2 rfl (lv_at hl 2 rfl) ?_
          have hy_t1 : M.toldMany (Int.toNat (t1 : Int)) = -1 := hz_t1
          have hy_t2 : M.toldMany (Int.toNat (t2 : Int)) = (r_t2.1 : Int) := hz_t2
          refine xv_i (i := 53) (As := [.int (xI (t1 : Int)), .int (xI (t2 : Int))]) (rest := []) ⟨hx, hb, hml, hown, hts⟩ hl.1 (c_X5_barsTwo l D cA n ad en hn hM (t1 : Int) (t2 : Int) (-1003) (by omega) (by omega) (fun _ => by show -1 ≤ M.toldMany t1 ∧ M.toldMany t1 ≤ 200; omega) (fun _ => by show -1 ≤ M.toldMany t2 ∧ M.toldMany t2 ≤ 200; omega) (by omega)) k_X5_barsTwo u_ml_RX5_128 hK hN hP (by omega) hM.1 rfl rfl rfl rfl (Nat.le_of_ble_eq_true rfl) ⟨Nat.le_of_ble_eq_true rfl, Nat.le_of_ble_eq_true rfl⟩ ⟨Nat.le_of_ble_eq_true rfl, Nat.le_of_ble_eq_true rfl⟩ dX5_lastText_3 ?_
          refine lv_istore (lv' := [(4, .int (xI (-1003))), (0, .ref (ad 53)), (1, .int (xI (t1 : Int))), (2, .int (xI (t2 : Int))), (3, .int (xI z3))]) hx hb dX5_lastText_6 hl (by decide) rfl (fun ls hl => ?_)
          refine lv_iload hx hb dX5_lastText_8 (lv_at hl 0 rfl) ?_
          refine x_if_ge (tgt := 16) hx hb dX5_lastText_10 (by decide) (by omega) (fun c_10 => absurd c_10 (by omega)) (fun c_10 => ?_)
          refine lv_iload hx hb dX5_lastText_13 (lv_at hl 0 rfl) ?_
          exact xe_i hx hb hrt hlocks hP hS ((by unfold am_lastText; simp only [Int.toNat_natCast]; simp only [sp_get_s hS_t2]; rw [sp_if_f (by omega), sp_if_t (by simp [hS_t1, hS_t2])]; exact ⟨rfl, _, hM, hR, ho⟩)) dX5_lastText_15
      · have hz_t1 : M.toldMany t1 = -1 := by have q := hR.2.1 t1 h_t1; rw [hS_t1] at q; exact q
        refine lv_aload_n hx hb dX5_lastText_0 rfl (lv_at hl 0 rfl) ?_
        refine lv_iload_n hx hb dX5_lastText_1 rfl (lv_at hl 1 rfl) ?_
        refine lv_iload_n hx hb dX5_lastText_2 rfl (lv_at hl 2 rfl) ?_
        have hy_t1 : M.toldMany (Int.toNat (t1 : Int)) = -1 := hz_t1
        refine xv_i (i := 53) (As := [.int (xI (t1 : Int)), .int (xI z2)]) (rest := []) ⟨hx, hb, hml, hown, hts⟩ hl.1 (c_X5_barsTwo l D cA n ad en hn hM (t1 : Int) z2 (-1001) (by omega) (by omega) (fun _ => by show -1 ≤ M.toldMany t1 ∧ M.toldMany t1 ≤ 200; omega) (fun h => absurd h (by omega)) (by omega)) k_X5_barsTwo u_ml_RX5_128 hK hN hP (by omega) hM.1 rfl rfl rfl rfl (Nat.le_of_ble_eq_true rfl) ⟨Nat.le_of_ble_eq_true rfl, Nat.le_of_ble_eq_true rfl⟩ ⟨Nat.le_of_ble_eq_true rfl, Nat.le_of_ble_eq_true rfl⟩ dX5_lastText_3 ?_
        refine lv_istore (lv' := [(4, .int (xI (-1001))), (0, .ref (ad 53)), (1, .int (xI (t1 : Int))), (2, .int (xI z2)), (3, .int (xI z3))]) hx hb dX5_lastText_6 hl (by decide) rfl (fun ls hl => ?_)
        refine lv_iload hx hb dX5_lastText_8 (lv_at hl 0 rfl) ?_
        refine x_if_ge (tgt := 16) hx hb dX5_lastText_10 (by decide) (by omega) (fun c_10 => absurd c_10 (by omega)) (fun c_10 => ?_)
        refine lv_iload hx hb dX5_lastText_13 (lv_at hl 0 rfl) ?_
        exact xe_i hx hb hrt hlocks hP hS ((by unfold am_lastText; simp only [Int.toNat_natCast]; rw [sp_if_t (by omega)]; exact ⟨rfl, _, hM, hR, ho⟩)) dX5_lastText_15
    · rcases Classical.em (0 ≤ z2 ∧ z2 < 8) with hx_z2 | hx_z2
      · obtain ⟨t2, rfl⟩ : ∃ q : Nat, z2 = (q : Int) := ⟨z2.toNat, by omega⟩
        have h_t2 : t2 < 8 := by omega
        rcases hS_t2 : S.2.1 t2 with _ | r_t2
        · have hT_t1 : M.toldMany t1 = (r_t1.1 : Int) ∧ ∀ k : Nat, k < r_t1.1 → M.told (200 * t1 + k) = r_t1.2 k := by have q := hR.2.1 t1 h_t1; rw [hS_t1] at q; exact q
          have hz_t1 := hT_t1.1
          have hm_t1 := (hW.2.1 t1 r_t1 h_t1 hS_t1).1
          have hfb_t1 := (hW.2.1 t1 r_t1 h_t1 hS_t1).2
          have hz_t2 : M.toldMany t2 = -1 := by have q := hR.2.1 t2 h_t2; rw [hS_t2] at q; exact q
          refine lv_aload_n hx hb dX5_lastText_0 rfl (lv_at hl 0 rfl) ?_
          refine lv_iload_n hx hb dX5_lastText_1 rfl (lv_at hl 1 rfl) ?_
          refine lv_iload_n hx hb dX5_lastText_2 rfl (lv_at hl 2 rfl) ?_
          have hy_t1 : M.toldMany (Int.toNat (t1 : Int)) = (r_t1.1 : Int) := hz_t1
          have hy_t2 : M.toldMany (Int.toNat (t2 : Int)) = -1 := hz_t2
          refine xv_i (i := 53) (As := [.int (xI (t1 : Int)), .int (xI (t2 : Int))]) (rest := []) ⟨hx, hb, hml, hown, hts⟩ hl.1 (c_X5_barsTwo l D cA n ad en hn hM (t1 : Int) (t2 : Int) (-1003) (by omega) (by omega) (fun _ => by show -1 ≤ M.toldMany t1 ∧ M.toldMany t1 ≤ 200; omega) (fun _ => by show -1 ≤ M.toldMany t2 ∧ M.toldMany t2 ≤ 200; omega) (by omega)) k_X5_barsTwo u_ml_RX5_128 hK hN hP (by omega) hM.1 rfl rfl rfl rfl (Nat.le_of_ble_eq_true rfl) ⟨Nat.le_of_ble_eq_true rfl, Nat.le_of_ble_eq_true rfl⟩ ⟨Nat.le_of_ble_eq_true rfl, Nat.le_of_ble_eq_true rfl⟩ dX5_lastText_3 ?_
          refine lv_istore (lv' := [(4, .int (xI (-1003))), (0, .ref (ad 53)), (1, .int (xI (t1 : Int))), (2, .int (xI (t2 : Int))), (3, .int (xI z3))]) hx hb dX5_lastText_6 hl (by decide) rfl (fun ls hl => ?_)
          refine lv_iload hx hb dX5_lastText_8 (lv_at hl 0 rfl) ?_
          refine x_if_ge (tgt := 16) hx hb dX5_lastText_10 (by decide) (by omega) (fun c_10 => absurd c_10 (by omega)) (fun c_10 => ?_)
          refine lv_iload hx hb dX5_lastText_13 (lv_at hl 0 rfl) ?_
          exact xe_i hx hb hrt hlocks hP hS ((by unfold am_lastText; simp only [Int.toNat_natCast]; simp only [sp_get_s hS_t1]; rw [sp_if_f (by omega), sp_if_t (by simp [hS_t1, hS_t2])]; exact ⟨rfl, _, hM, hR, ho⟩)) dX5_lastText_15
        · have hT_t1 : M.toldMany t1 = (r_t1.1 : Int) ∧ ∀ k : Nat, k < r_t1.1 → M.told (200 * t1 + k) = r_t1.2 k := by have q := hR.2.1 t1 h_t1; rw [hS_t1] at q; exact q
          have hz_t1 := hT_t1.1
          have hm_t1 := (hW.2.1 t1 r_t1 h_t1 hS_t1).1
          have hfb_t1 := (hW.2.1 t1 r_t1 h_t1 hS_t1).2
          have hT_t2 : M.toldMany t2 = (r_t2.1 : Int) ∧ ∀ k : Nat, k < r_t2.1 → M.told (200 * t2 + k) = r_t2.2 k := by have q := hR.2.1 t2 h_t2; rw [hS_t2] at q; exact q
          have hz_t2 := hT_t2.1
          have hm_t2 := (hW.2.1 t2 r_t2 h_t2 hS_t2).1
          have hfb_t2 := (hW.2.1 t2 r_t2 h_t2 hS_t2).2
          refine lv_aload_n hx hb dX5_lastText_0 rfl (lv_at hl 0 rfl) ?_
          refine lv_iload_n hx hb dX5_lastText_1 rfl (lv_at hl 1 rfl) ?_
          refine lv_iload_n hx hb dX5_lastText_2 rfl (lv_at hl 2 rfl) ?_
          have hy_t1 : M.toldMany (Int.toNat (t1 : Int)) = (r_t1.1 : Int) := hz_t1
          have hy_t2 : M.toldMany (Int.toNat (t2 : Int)) = (r_t2.1 : Int) := hz_t2
          refine xv_i (i := 53) (As := [.int (xI (t1 : Int)), .int (xI (t2 : Int))]) (rest := []) ⟨hx, hb, hml, hown, hts⟩ hl.1 (c_X5_barsTwo l D cA n ad en hn hM (t1 : Int) (t2 : Int) 0 (by omega) (by omega) (fun _ => by show -1 ≤ M.toldMany t1 ∧ M.toldMany t1 ≤ 200; omega) (fun _ => by show -1 ≤ M.toldMany t2 ∧ M.toldMany t2 ≤ 200; omega) (by omega)) k_X5_barsTwo u_ml_RX5_128 hK hN hP (by omega) hM.1 rfl rfl rfl rfl (Nat.le_of_ble_eq_true rfl) ⟨Nat.le_of_ble_eq_true rfl, Nat.le_of_ble_eq_true rfl⟩ ⟨Nat.le_of_ble_eq_true rfl, Nat.le_of_ble_eq_true rfl⟩ dX5_lastText_3 ?_
          refine lv_istore (lv' := [(4, .int (xI 0)), (0, .ref (ad 53)), (1, .int (xI (t1 : Int))), (2, .int (xI (t2 : Int))), (3, .int (xI z3))]) hx hb dX5_lastText_6 hl (by decide) rfl (fun ls hl => ?_)
          refine lv_iload hx hb dX5_lastText_8 (lv_at hl 0 rfl) ?_
          refine x_if_ge (tgt := 16) hx hb dX5_lastText_10 (by decide) (by omega) (fun c_10 => ?_) (fun c_10 => absurd c_10 (by omega))
          refine lv_aload_n hx hb dX5_lastText_16 rfl (lv_at hl 1 rfl) ?_
          refine lv_iload_n hx hb dX5_lastText_17 rfl (lv_at hl 3 rfl) ?_
          refine xm_v (i := 53) (As := [.int (xI (t2 : Int))]) (rest := []) ⟨hx, hb, hml, hown, hts⟩ hl.1 (c_X5_layText_some l D cA n ad en _ hn hM t2 h_t2 (r := r_t2) hz_t2 hm_t2 hT_t2.2) k_X5_layText u_ml_RX5_90 hK hN hP (by omega) hM.1 rfl rfl rfl rfl (Nat.le_of_ble_eq_true rfl) ⟨Nat.le_of_ble_eq_true rfl, Nat.le_of_ble_eq_true rfl⟩ ⟨Nat.le_of_ble_eq_true rfl, Nat.le_of_ble_eq_true rfl⟩ dX5_lastText_18 hD hS hA (fun en1 H locs hp1 hP hS => ?_)
          obtain ⟨F9, hF9, hM, ho2⟩ := hp1
          have hM : MW cA ad en1 (mO M.built M.builtMany M.told M.toldMany F9 (r_t2.1 : Int) M.figures M.partText M.partFrom M.partMany M.parts M.cut M.cutMany M.isCut M.cutGives M.cutAt M.h) := hM
          have ho := ho.tr ho2
          refine lv_aload_n hx hb dX5_lastText_21 rfl (lv_at hl 1 rfl) ?_
          refine lv_aload_n hx hb dX5_lastText_22 rfl (lv_at hl 1 rfl) ?_
          refine x_get (T := TX5) (N := 17) hx hb hts uX5 hown hK hP (i := 53) (by omega) (show en1 53 = .inr (5, [.ref (ad 54), .ref (ad 55), .ref (ad 56), .ref (ad 57), .ref (ad 58), .int (xI (r_t2.1 : Int)), .ref (ad 59), .ref (ad 60), .ref (ad 61), .ref (ad 62), .int (xI M.parts), .ref (ad 63), .ref (ad 64), .ref (ad 65), .ref (ad 66), .ref (ad 67), .long M.h]) from hM.1) rfl 2 (by decide) u_fl_RX5_16 rfl dX5_lastText_23 ?_
          refine x_sipush hx hb dX5_lastText_26 (by decide +kernel) ?_
          refine lv_iload_n hx hb dX5_lastText_29 rfl (lv_at hl 2 rfl) ?_
          refine x_imul hx hb dX5_lastText_30 ?_
          refine x_to (((200 * t1 : Nat) : Int)) (by omega) ?_
          refine lv_aload_n hx hb dX5_lastText_31 rfl (lv_at hl 1 rfl) ?_
          refine x_get (T := TX5) (N := 17) hx hb hts uX5 hown hK hP (i := 53) (by omega) (show en1 53 = .inr (5, [.ref (ad 54), .ref (ad 55), .ref (ad 56), .ref (ad 57), .ref (ad 58), .int (xI (r_t2.1 : Int)), .ref (ad 59), .ref (ad 60), .ref (ad 61), .ref (ad 62), .int (xI M.parts), .ref (ad 63), .ref (ad 64), .ref (ad 65), .ref (ad 66), .ref (ad 67), .long M.h]) from hM.1) rfl 3 (by decide) u_fl_RX5_19 rfl dX5_lastText_32 ?_
          refine lv_iload_n hx hb dX5_lastText_35 rfl (lv_at hl 2 rfl) ?_
          refine x_ild hx hb hK hP (i := 57) (by omega) hM.2.2.2.2.1 (x := (r_t1.1 : Int)) (by omega) (congrArg xI hz_t1) dX5_lastText_36 ?_
          refine lv_iload_n hx hb dX5_lastText_37 rfl (lv_at hl 4 rfl) ?_
          refine xv_i (i := 53) (As := [.ref (ad 56), .int (xI ((200 * t1 : Nat) : Int)), .int (xI (r_t1.1 : Int)), .int (xI z3)]) (rest := []) ⟨hx, hb, hml, hown, hts⟩ hl.1 (c_X5_lastOf l D cA n ad en1 hn hM (q0 := 56) (L9 := 1600) (g9 := M.told) (h := r_t2.2) (by omega) hM.2.2.2.1 (200 * t1) r_t1.1 (by omega) (by omega) hT_t1.2 hfb_t1 hm_t1 r_t2.1 (show (r_t2.1 : Int) = ((r_t2.1 : Nat) : Int) from rfl) (by omega) hF9 (fun k hk => hfb_t2 k hk) z3 (by omega)) k_X5_lastOf u_ml_RX5_115 hK hN hP (by omega) (show en1 53 = .inr (5, [.ref (ad 54), .ref (ad 55), .ref (ad 56), .ref (ad 57), .ref (ad 58), .int (xI (r_t2.1 : Int)), .ref (ad 59), .ref (ad 60), .ref (ad 61), .ref (ad 62), .int (xI M.parts), .ref (ad 63), .ref (ad 64), .ref (ad 65), .ref (ad 66), .ref (ad 67), .long M.h]) from hM.1) rfl rfl rfl rfl (Nat.le_of_ble_eq_true rfl) ⟨Nat.le_of_ble_eq_true rfl, Nat.le_of_ble_eq_true rfl⟩ ⟨Nat.le_of_ble_eq_true rfl, Nat.le_of_ble_eq_true rfl⟩ dX5_lastText_38 ?_
          exact xe_i hx hb hrt hlocks hP hS ((by unfold am_lastText; simp only [Int.toNat_natCast]; simp only [sp_get_s hS_t1, sp_get_s hS_t2]; rw [sp_if_f (by omega), sp_if_f (by simp [hS_t1, hS_t2])]; exact ⟨rfl, _, hM, hR, ho⟩)) dX5_lastText_41
      · have hT_t1 : M.toldMany t1 = (r_t1.1 : Int) ∧ ∀ k : Nat, k < r_t1.1 → M.told (200 * t1 + k) = r_t1.2 k := by have q := hR.2.1 t1 h_t1; rw [hS_t1] at q; exact q
        have hz_t1 := hT_t1.1
        have hm_t1 := (hW.2.1 t1 r_t1 h_t1 hS_t1).1
        have hfb_t1 := (hW.2.1 t1 r_t1 h_t1 hS_t1).2
        refine lv_aload_n hx hb dX5_lastText_0 rfl (lv_at hl 0 rfl) ?_
        refine lv_iload_n hx hb dX5_lastText_1 rfl (lv_at hl 1 rfl) ?_
        refine lv_iload_n hx hb dX5_lastText_2 rfl (lv_at hl 2 rfl) ?_
        have hy_t1 : M.toldMany (Int.toNat (t1 : Int)) = (r_t1.1 : Int) := hz_t1
        refine xv_i (i := 53) (As := [.int (xI (t1 : Int)), .int (xI z2)]) (rest := []) ⟨hx, hb, hml, hown, hts⟩ hl.1 (c_X5_barsTwo l D cA n ad en hn hM (t1 : Int) z2 (-1001) (by omega) (by omega) (fun _ => by show -1 ≤ M.toldMany t1 ∧ M.toldMany t1 ≤ 200; omega) (fun h => absurd h (by omega)) (by omega)) k_X5_barsTwo u_ml_RX5_128 hK hN hP (by omega) hM.1 rfl rfl rfl rfl (Nat.le_of_ble_eq_true rfl) ⟨Nat.le_of_ble_eq_true rfl, Nat.le_of_ble_eq_true rfl⟩ ⟨Nat.le_of_ble_eq_true rfl, Nat.le_of_ble_eq_true rfl⟩ dX5_lastText_3 ?_
        refine lv_istore (lv' := [(4, .int (xI (-1001))), (0, .ref (ad 53)), (1, .int (xI (t1 : Int))), (2, .int (xI z2)), (3, .int (xI z3))]) hx hb dX5_lastText_6 hl (by decide) rfl (fun ls hl => ?_)
        refine lv_iload hx hb dX5_lastText_8 (lv_at hl 0 rfl) ?_
        refine x_if_ge (tgt := 16) hx hb dX5_lastText_10 (by decide) (by omega) (fun c_10 => absurd c_10 (by omega)) (fun c_10 => ?_)
        refine lv_iload hx hb dX5_lastText_13 (lv_at hl 0 rfl) ?_
        exact xe_i hx hb hrt hlocks hP hS ((by unfold am_lastText; simp only [Int.toNat_natCast]; simp only [sp_get_s hS_t1]; rw [sp_if_t (by omega)]; exact ⟨rfl, _, hM, hR, ho⟩)) dX5_lastText_15
  · rcases Classical.em (0 ≤ z2 ∧ z2 < 8) with hx_z2 | hx_z2
    · obtain ⟨t2, rfl⟩ : ∃ q : Nat, z2 = (q : Int) := ⟨z2.toNat, by omega⟩
      have h_t2 : t2 < 8 := by omega
      rcases hS_t2 : S.2.1 t2 with _ | r_t2
      · have hz_t2 : M.toldMany t2 = -1 := by have q := hR.2.1 t2 h_t2; rw [hS_t2] at q; exact q
        refine lv_aload_n hx hb dX5_lastText_0 rfl (lv_at hl 0 rfl) ?_
        refine lv_iload_n hx hb dX5_lastText_1 rfl (lv_at hl 1 rfl) ?_
        refine lv_iload_n hx hb dX5_lastText_2 rfl (lv_at hl 2 rfl) ?_
        have hy_t2 : M.toldMany (Int.toNat (t2 : Int)) = -1 := hz_t2
        refine xv_i (i := 53) (As := [.int (xI z1), .int (xI (t2 : Int))]) (rest := []) ⟨hx, hb, hml, hown, hts⟩ hl.1 (c_X5_barsTwo l D cA n ad en hn hM z1 (t2 : Int) (-1001) (by omega) (by omega) (fun h => absurd h (by omega)) (fun _ => by show -1 ≤ M.toldMany t2 ∧ M.toldMany t2 ≤ 200; omega) (by omega)) k_X5_barsTwo u_ml_RX5_128 hK hN hP (by omega) hM.1 rfl rfl rfl rfl (Nat.le_of_ble_eq_true rfl) ⟨Nat.le_of_ble_eq_true rfl, Nat.le_of_ble_eq_true rfl⟩ ⟨Nat.le_of_ble_eq_true rfl, Nat.le_of_ble_eq_true rfl⟩ dX5_lastText_3 ?_
        refine lv_istore (lv' := [(4, .int (xI (-1001))), (0, .ref (ad 53)), (1, .int (xI z1)), (2, .int (xI (t2 : Int))), (3, .int (xI z3))]) hx hb dX5_lastText_6 hl (by decide) rfl (fun ls hl => ?_)
        refine lv_iload hx hb dX5_lastText_8 (lv_at hl 0 rfl) ?_
        refine x_if_ge (tgt := 16) hx hb dX5_lastText_10 (by decide) (by omega) (fun c_10 => absurd c_10 (by omega)) (fun c_10 => ?_)
        refine lv_iload hx hb dX5_lastText_13 (lv_at hl 0 rfl) ?_
        exact xe_i hx hb hrt hlocks hP hS ((by unfold am_lastText; simp only [Int.toNat_natCast]; rw [sp_if_t (by omega)]; exact ⟨rfl, _, hM, hR, ho⟩)) dX5_lastText_15
      · have hT_t2 : M.toldMany t2 = (r_t2.1 : Int) ∧ ∀ k : Nat, k < r_t2.1 → M.told (200 * t2 + k) = r_t2.2 k := by have q := hR.2.1 t2 h_t2; rw [hS_t2] at q; exact q
        have hz_t2 := hT_t2.1
        have hm_t2 := (hW.2.1 t2 r_t2 h_t2 hS_t2).1
        have hfb_t2 := (hW.2.1 t2 r_t2 h_t2 hS_t2).2
        refine lv_aload_n hx hb dX5_lastText_0 rfl (lv_at hl 0 rfl) ?_
        refine lv_iload_n hx hb dX5_lastText_1 rfl (lv_at hl 1 rfl) ?_
        refine lv_iload_n hx hb dX5_lastText_2 rfl (lv_at hl 2 rfl) ?_
        have hy_t2 : M.toldMany (Int.toNat (t2 : Int)) = (r_t2.1 : Int) := hz_t2
        refine xv_i (i := 53) (As := [.int (xI z1), .int (xI (t2 : Int))]) (rest := []) ⟨hx, hb, hml, hown, hts⟩ hl.1 (c_X5_barsTwo l D cA n ad en hn hM z1 (t2 : Int) (-1001) (by omega) (by omega) (fun h => absurd h (by omega)) (fun _ => by show -1 ≤ M.toldMany t2 ∧ M.toldMany t2 ≤ 200; omega) (by omega)) k_X5_barsTwo u_ml_RX5_128 hK hN hP (by omega) hM.1 rfl rfl rfl rfl (Nat.le_of_ble_eq_true rfl) ⟨Nat.le_of_ble_eq_true rfl, Nat.le_of_ble_eq_true rfl⟩ ⟨Nat.le_of_ble_eq_true rfl, Nat.le_of_ble_eq_true rfl⟩ dX5_lastText_3 ?_
        refine lv_istore (lv' := [(4, .int (xI (-1001))), (0, .ref (ad 53)), (1, .int (xI z1)), (2, .int (xI (t2 : Int))), (3, .int (xI z3))]) hx hb dX5_lastText_6 hl (by decide) rfl (fun ls hl => ?_)
        refine lv_iload hx hb dX5_lastText_8 (lv_at hl 0 rfl) ?_
        refine x_if_ge (tgt := 16) hx hb dX5_lastText_10 (by decide) (by omega) (fun c_10 => absurd c_10 (by omega)) (fun c_10 => ?_)
        refine lv_iload hx hb dX5_lastText_13 (lv_at hl 0 rfl) ?_
        exact xe_i hx hb hrt hlocks hP hS ((by unfold am_lastText; simp only [Int.toNat_natCast]; simp only [sp_get_s hS_t2]; rw [sp_if_t (by omega)]; exact ⟨rfl, _, hM, hR, ho⟩)) dX5_lastText_15
    · refine lv_aload_n hx hb dX5_lastText_0 rfl (lv_at hl 0 rfl) ?_
      refine lv_iload_n hx hb dX5_lastText_1 rfl (lv_at hl 1 rfl) ?_
      refine lv_iload_n hx hb dX5_lastText_2 rfl (lv_at hl 2 rfl) ?_
      refine xv_i (i := 53) (As := [.int (xI z1), .int (xI z2)]) (rest := []) ⟨hx, hb, hml, hown, hts⟩ hl.1 (c_X5_barsTwo l D cA n ad en hn hM z1 z2 (-1001) (by omega) (by omega) (fun h => absurd h (by omega)) (fun h => absurd h (by omega)) (by omega)) k_X5_barsTwo u_ml_RX5_128 hK hN hP (by omega) hM.1 rfl rfl rfl rfl (Nat.le_of_ble_eq_true rfl) ⟨Nat.le_of_ble_eq_true rfl, Nat.le_of_ble_eq_true rfl⟩ ⟨Nat.le_of_ble_eq_true rfl, Nat.le_of_ble_eq_true rfl⟩ dX5_lastText_3 ?_
      refine lv_istore (lv' := [(4, .int (xI (-1001))), (0, .ref (ad 53)), (1, .int (xI z1)), (2, .int (xI z2)), (3, .int (xI z3))]) hx hb dX5_lastText_6 hl (by decide) rfl (fun ls hl => ?_)
      refine lv_iload hx hb dX5_lastText_8 (lv_at hl 0 rfl) ?_
      refine x_if_ge (tgt := 16) hx hb dX5_lastText_10 (by decide) (by omega) (fun c_10 => absurd c_10 (by omega)) (fun c_10 => ?_)
      refine lv_iload hx hb dX5_lastText_13 (lv_at hl 0 rfl) ?_
      exact xe_i hx hb hrt hlocks hP hS ((by unfold am_lastText; rw [sp_if_t (by omega)]; exact ⟨rfl, _, hM, hR, ho⟩)) dX5_lastText_15

set_option maxRecDepth 20000 in
theorem c_X5_order (l : Launch) (D : va_G) (cA : Nat → ClassId) (n : Nat) (ad : Nat → Nat) (en : Nat → va_E) (hn : 68 ≤ n) {M : MO} (hM : MW cA ad en M) {S : xSt} (hW : WF S) (hR : MR S M) (z1 : Int) (hz1 : -2147483648 ≤ z1 ∧ z1 ≤ 2147483647) (z2 : Int) (hz2 : -2147483648 ≤ z2 ∧ z2 ≤ 2147483647) : Met l yX5_order (Cond.code yX5_order cX5_order 4 (some .int) :: xU) (xrm 3 67) (va_Pc [.ref (ad 53), .int (xI z1), .int (xI z2)] (xB D cA n ad en)) (vp_Si (fun z => z = xI (am_order S z1 z2))) 0 0 (fun _ => False) := by
  refine xmet (by decide) (Nat.le_of_ble_eq_true rfl) (fun p e s mm args below meth c ls hx hb hrt hml hown hts hlocks hname hB hl => ?_)
  obtain ⟨hP, hK, hN⟩ := hB
  have hl : lv_has ls 4 [(0, .ref (ad 53)), (1, .int (xI z1)), (2, .int (xI z2))] := hl
  rcases Classical.em (0 ≤ z1 ∧ z1 < 8) with hx_z1 | hx_z1
  · obtain ⟨t1, rfl⟩ : ∃ q : Nat, z1 = (q : Int) := ⟨z1.toNat, by omega⟩
    have h_t1 : t1 < 8 := by omega
    rcases hS_t1 : S.2.1 t1 with _ | r_t1
    · rcases Classical.em (0 ≤ z2 ∧ z2 < 8) with hx_z2 | hx_z2
      · obtain ⟨t2, rfl⟩ : ∃ q : Nat, z2 = (q : Int) := ⟨z2.toNat, by omega⟩
        have h_t2 : t2 < 8 := by omega
        rcases hS_t2 : S.2.1 t2 with _ | r_t2
        · have hz_t1 : M.toldMany t1 = -1 := by have q := hR.2.1 t1 h_t1; rw [hS_t1] at q; exact q
          have hz_t2 : M.toldMany t2 = -1 := by have q := hR.2.1 t2 h_t2; rw [hS_t2] at q; exact q
          refine lv_aload_n hx hb dX5_order_0 rfl (lv_at hl 0 rfl) ?_
          refine lv_iload_n hx hb dX5_order_1 rfl (lv_at hl 1 rfl) ?_
          refine lv_iload_n hx hb dX5_order_2 rfl (lv_at hl 2 rfl) ?_
          have hy_t1 : M.toldMany (Int.toNat (t1 : Int)) = -1 := hz_t1
          have hy_t2 : M.toldMany (Int.toNat (t2 : Int)) = -1 := hz_t2
          refine xv_i (i := 53) (As := [.int (xI (t1 : Int)), .int (xI (t2 : Int))]) (rest := []) ⟨hx, hb, hml, hown, hts⟩ hl.1 (c_X5_barsTwo l D cA n ad en hn hM (t1 : Int) (t2 : Int) (-1003) (by omega) (by omega) (fun _ => by show -1 ≤ M.toldMany t1 ∧ M.toldMany t1 ≤ 200; omega) (fun _ => by show -1 ≤ M.toldMany t2 ∧ M.toldMany t2 ≤ 200; omega) (by omega)) k_X5_barsTwo u_ml_RX5_128 hK hN hP (by omega) hM.1 rfl rfl rfl rfl (Nat.le_of_ble_eq_true rfl) ⟨Nat.le_of_ble_eq_true rfl, Nat.le_of_ble_eq_true rfl⟩ ⟨Nat.le_of_ble_eq_true rfl, Nat.le_of_ble_eq_true rfl⟩ dX5_order_3 ?_
          refine lv_istore_n (lv' := [(3, .int (xI (-1003))), (0, .ref (ad 53)), (1, .int (xI (t1 : Int))), (2, .int (xI (t2 : Int)))]) hx hb dX5_order_6 rfl hl (by decide) rfl (fun ls hl => ?_)
          refine lv_iload_n hx hb dX5_order_7 rfl (lv_at hl 0 rfl) ?_
          refine x_if_ge (tgt := 15) hx hb dX5_order_8 (by decide) (by omega) (fun c_8 => absurd c_8 (by omega)) (fun c_8 => ?_)
          refine lv_iload_n hx hb dX5_order_11 rfl (lv_at hl 0 rfl) ?_
          refine lv_goto (tgt := 44) hx hb dX5_order_12 (by decide) ?_
          exact xr_i hx hb hrt hlocks ((by unfold am_order; simp only [Int.toNat_natCast]; rw [sp_if_f (by omega), sp_if_t (by simp [hS_t1, hS_t2])])) dX5_order_44
        · have hz_t1 : M.toldMany t1 = -1 := by have q := hR.2.1 t1 h_t1; rw [hS_t1] at q; exact q
          have hT_t2 : M.toldMany t2 = (r_t2.1 : Int) ∧ ∀ k : Nat, k < r_t2.1 → M.told (200 * t2 + k) = r_t2.2 k := by have q := hR.2.1 t2 h_t2; rw [hS_t2] at q; exact q
          have hz_t2 := hT_t2.1
          have hm_t2 := (hW.2.1 t2 r_t2 h_t2 hS_t2).1
          have hfb_t2 := (hW.2.1 t2 r_t2 h_t2 hS_t2).2
          refine lv_aload_n hx hb dX5_order_0 rfl (lv_at hl 0 rfl) ?_
          refine lv_iload_n hx hb dX5_order_1 rfl (lv_at hl 1 rfl) ?_
          refine lv_iload_n hx hb dX5_order_2 rfl (lv_at hl 2 rfl) ?_
          have hy_t1 : M.toldMany (Int.toNat (t1 : Int)) = -1 := hz_t1
          have hy_t2 : M.toldMany (Int.toNat (t2 : Int)) = (r_t2.1 : Int) := hz_t2
          refine xv_i (i := 53) (As := [.int (xI (t1 : Int)), .int (xI (t2 : Int))]) (rest := []) ⟨hx, hb, hml, hown, hts⟩ hl.1 (c_X5_barsTwo l D cA n ad en hn hM (t1 : Int) (t2 : Int) (-1003) (by omega) (by omega) (fun _ => by show -1 ≤ M.toldMany t1 ∧ M.toldMany t1 ≤ 200; omega) (fun _ => by show -1 ≤ M.toldMany t2 ∧ M.toldMany t2 ≤ 200; omega) (by omega)) k_X5_barsTwo u_ml_RX5_128 hK hN hP (by omega) hM.1 rfl rfl rfl rfl (Nat.le_of_ble_eq_true rfl) ⟨Nat.le_of_ble_eq_true rfl, Nat.le_of_ble_eq_true rfl⟩ ⟨Nat.le_of_ble_eq_true rfl, Nat.le_of_ble_eq_true rfl⟩ dX5_order_3 ?_
          refine lv_istore_n (lv' := [(3, .int (xI (-1003))), (0, .ref (ad 53)), (1, .int (xI (t1 : Int))), (2, .int (xI (t2 : Int)))]) hx hb dX5_order_6 rfl hl (by decide) rfl (fun ls hl => ?_)
          refine lv_iload_n hx hb dX5_order_7 rfl (lv_at hl 0 rfl) ?_
          refine x_if_ge (tgt := 15) hx hb dX5_order_8 (by decide) (by omega) (fun c_8 => absurd c_8 (by omega)) (fun c_8 => ?_)
          refine lv_iload_n hx hb dX5_order_11 rfl (lv_at hl 0 rfl) ?_
          refine lv_goto (tgt := 44) hx hb dX5_order_12 (by decide) ?_
          exact xr_i hx hb hrt hlocks ((by unfold am_order; simp only [Int.toNat_natCast]; simp only [sp_get_s hS_t2]; rw [sp_if_f (by omega), sp_if_t (by simp [hS_t1, hS_t2])])) dX5_order_44
      · have hz_t1 : M.toldMany t1 = -1 := by have q := hR.2.1 t1 h_t1; rw [hS_t1] at q; exact q
        refine lv_aload_n hx hb dX5_order_0 rfl (lv_at hl 0 rfl) ?_
        refine lv_iload_n hx hb dX5_order_1 rfl (lv_at hl 1 rfl) ?_
        refine lv_iload_n hx hb dX5_order_2 rfl (lv_at hl 2 rfl) ?_
        have hy_t1 : M.toldMany (Int.toNat (t1 : Int)) = -1 := hz_t1
        refine xv_i (i := 53) (As := [.int (xI (t1 : Int)), .int (xI z2)]) (rest := []) ⟨hx, hb, hml, hown, hts⟩ hl.1 (c_X5_barsTwo l D cA n ad en hn hM (t1 : Int) z2 (-1001) (by omega) (by omega) (fun _ => by show -1 ≤ M.toldMany t1 ∧ M.toldMany t1 ≤ 200; omega) (fun h => absurd h (by omega)) (by omega)) k_X5_barsTwo u_ml_RX5_128 hK hN hP (by omega) hM.1 rfl rfl rfl rfl (Nat.le_of_ble_eq_true rfl) ⟨Nat.le_of_ble_eq_true rfl, Nat.le_of_ble_eq_true rfl⟩ ⟨Nat.le_of_ble_eq_true rfl, Nat.le_of_ble_eq_true rfl⟩ dX5_order_3 ?_
        refine lv_istore_n (lv' := [(3, .int (xI (-1001))), (0, .ref (ad 53)), (1, .int (xI (t1 : Int))), (2, .int (xI z2))]) hx hb dX5_order_6 rfl hl (by decide) rfl (fun ls hl => ?_)
        refine lv_iload_n hx hb dX5_order_7 rfl (lv_at hl 0 rfl) ?_
        refine x_if_ge (tgt := 15) hx hb dX5_order_8 (by decide) (by omega) (fun c_8 => absurd c_8 (by omega)) (fun c_8 => ?_)
        refine lv_iload_n hx hb dX5_order_11 rfl (lv_at hl 0 rfl) ?_
        refine lv_goto (tgt := 44) hx hb dX5_order_12 (by decide) ?_
        exact xr_i hx hb hrt hlocks ((by unfold am_order; simp only [Int.toNat_natCast]; rw [sp_if_t (by omega)])) dX5_order_44
    · rcases Classical.em (0 ≤ z2 ∧ z2 < 8) with hx_z2 | hx_z2
      · obtain ⟨t2, rfl⟩ : ∃ q : Nat, z2 = (q : Int) := ⟨z2.toNat, by omega⟩
        have h_t2 : t2 < 8 := by omega
        rcases hS_t2 : S.2.1 t2 with _ | r_t2
        · have hT_t1 : M.toldMany t1 = (r_t1.1 : Int) ∧ ∀ k : Nat, k < r_t1.1 → M.told (200 * t1 + k) = r_t1.2 k := by have q := hR.2.1 t1 h_t1; rw [hS_t1] at q; exact q
          have hz_t1 := hT_t1.1
          have hm_t1 := (hW.2.1 t1 r_t1 h_t1 hS_t1).1
          have hfb_t1 := (hW.2.1 t1 r_t1 h_t1 hS_t1).2
          have hz_t2 : M.toldMany t2 = -1 := by have q := hR.2.1 t2 h_t2; rw [hS_t2] at q; exact q
          refine lv_aload_n hx hb dX5_order_0 rfl (lv_at hl 0 rfl) ?_
          refine lv_iload_n hx hb dX5_order_1 rfl (lv_at hl 1 rfl) ?_
          refine lv_iload_n hx hb dX5_order_2 rfl (lv_at hl 2 rfl) ?_
          have hy_t1 : M.toldMany (Int.toNat (t1 : Int)) = (r_t1.1 : Int) := hz_t1
          have hy_t2 : M.toldMany (Int.toNat (t2 : Int)) = -1 := hz_t2
          refine xv_i (i := 53) (As := [.int (xI (t1 : Int)), .int (xI (t2 : Int))]) (rest := []) ⟨hx, hb, hml, hown, hts⟩ hl.1 (c_X5_barsTwo l D cA n ad en hn hM (t1 : Int) (t2 : Int) (-1003) (by omega) (by omega) (fun _ => by show -1 ≤ M.toldMany t1 ∧ M.toldMany t1 ≤ 200; omega) (fun _ => by show -1 ≤ M.toldMany t2 ∧ M.toldMany t2 ≤ 200; omega) (by omega)) k_X5_barsTwo u_ml_RX5_128 hK hN hP (by omega) hM.1 rfl rfl rfl rfl (Nat.le_of_ble_eq_true rfl) ⟨Nat.le_of_ble_eq_true rfl, Nat.le_of_ble_eq_true rfl⟩ ⟨Nat.le_of_ble_eq_true rfl, Nat.le_of_ble_eq_true rfl⟩ dX5_order_3 ?_
          refine lv_istore_n (lv' := [(3, .int (xI (-1003))), (0, .ref (ad 53)), (1, .int (xI (t1 : Int))), (2, .int (xI (t2 : Int)))]) hx hb dX5_order_6 rfl hl (by decide) rfl (fun ls hl => ?_)
          refine lv_iload_n hx hb dX5_order_7 rfl (lv_at hl 0 rfl) ?_
          refine x_if_ge (tgt := 15) hx hb dX5_order_8 (by decide) (by omega) (fun c_8 => absurd c_8 (by omega)) (fun c_8 => ?_)
          refine lv_iload_n hx hb dX5_order_11 rfl (lv_at hl 0 rfl) ?_
          refine lv_goto (tgt := 44) hx hb dX5_order_12 (by decide) ?_
          exact xr_i hx hb hrt hlocks ((by unfold am_order; simp only [Int.toNat_natCast]; simp only [sp_get_s hS_t1]; rw [sp_if_f (by omega), sp_if_t (by simp [hS_t1, hS_t2])])) dX5_order_44
        · have hT_t1 : M.toldMany t1 = (r_t1.1 : Int) ∧ ∀ k : Nat, k < r_t1.1 → M.told (200 * t1 + k) = r_t1.2 k := by have q := hR.2.1 t1 h_t1; rw [hS_t1] at q; exact q
          have hz_t1 := hT_t1.1
          have hm_t1 := (hW.2.1 t1 r_t1 h_t1 hS_t1).1
          have hfb_t1 := (hW.2.1 t1 r_t1 h_t1 hS_t1).2
          have hT_t2 : M.toldMany t2 = (r_t2.1 : Int) ∧ ∀ k : Nat, k < r_t2.1 → M.told (200 * t2 + k) = r_t2.2 k := by have q := hR.2.1 t2 h_t2; rw [hS_t2] at q; exact q
          have hz_t2 := hT_t2.1
          have hm_t2 := (hW.2.1 t2 r_t2 h_t2 hS_t2).1
          have hfb_t2 := (hW.2.1 t2 r_t2 h_t2 hS_t2).2
          refine lv_aload_n hx hb dX5_order_0 rfl (lv_at hl 0 rfl) ?_
          refine lv_iload_n hx hb dX5_order_1 rfl (lv_at hl 1 rfl) ?_
          refine lv_iload_n hx hb dX5_order_2 rfl (lv_at hl 2 rfl) ?_
          have hy_t1 : M.toldMany (Int.toNat (t1 : Int)) = (r_t1.1 : Int) := hz_t1
          have hy_t2 : M.toldMany (Int.toNat (t2 : Int)) = (r_t2.1 : Int) := hz_t2
          refine xv_i (i := 53) (As := [.int (xI (t1 : Int)), .int (xI (t2 : Int))]) (rest := []) ⟨hx, hb, hml, hown, hts⟩ hl.1 (c_X5_barsTwo l D cA n ad en hn hM (t1 : Int) (t2 : Int) 0 (by omega) (by omega) (fun _ => by show -1 ≤ M.toldMany t1 ∧ M.toldMany t1 ≤ 200; omega) (fun _ => by show -1 ≤ M.toldMany t2 ∧ M.toldMany t2 ≤ 200; omega) (by omega)) k_X5_barsTwo u_ml_RX5_128 hK hN hP (by omega) hM.1 rfl rfl rfl rfl (Nat.le_of_ble_eq_true rfl) ⟨Nat.le_of_ble_eq_true rfl, Nat.le_of_ble_eq_true rfl⟩ ⟨Nat.le_of_ble_eq_true rfl, Nat.le_of_ble_eq_true rfl⟩ dX5_order_3 ?_
          refine lv_istore_n (lv' := [(3, .int (xI 0)), (0, .ref (ad 53)), (1, .int (xI (t1 : Int))), (2, .int (xI (t2 : Int)))]) hx hb dX5_order_6 rfl hl (by decide) rfl (fun ls hl => ?_)
          refine lv_iload_n hx hb dX5_order_7 rfl (lv_at hl 0 rfl) ?_
          refine x_if_ge (tgt := 15) hx hb dX5_order_8 (by decide) (by omega) (fun c_8 => ?_) (fun c_8 => absurd c_8 (by omega))
          refine lv_aload_n hx hb dX5_order_15 rfl (lv_at hl 1 rfl) ?_
          refine x_get (T := TX5) (N := 17) hx hb hts uX5 hown hK hP (i := 53) (by omega) hM.1 rfl 2 (by decide) u_fl_RX5_16 rfl dX5_order_16 ?_
          refine x_sipush hx hb dX5_order_19 (by decide +kernel) ?_
          refine lv_iload_n hx hb dX5_order_22 rfl (lv_at hl 2 rfl) ?_
          refine x_imul hx hb dX5_order_23 ?_
          refine x_to (((200 * t1 : Nat) : Int)) (by omega) ?_
          refine lv_aload_n hx hb dX5_order_24 rfl (lv_at hl 1 rfl) ?_
          refine x_get (T := TX5) (N := 17) hx hb hts uX5 hown hK hP (i := 53) (by omega) hM.1 rfl 3 (by decide) u_fl_RX5_19 rfl dX5_order_25 ?_
          refine lv_iload_n hx hb dX5_order_28 rfl (lv_at hl 2 rfl) ?_
          refine x_ild hx hb hK hP (i := 57) (by omega) hM.2.2.2.2.1 (x := (r_t1.1 : Int)) (by omega) (congrArg xI hz_t1) dX5_order_29 ?_
          refine x_sipush hx hb dX5_order_30 (by decide +kernel) ?_
          refine lv_iload_n hx hb dX5_order_33 rfl (lv_at hl 3 rfl) ?_
          refine x_imul hx hb dX5_order_34 ?_
          refine x_to (((200 * t2 : Nat) : Int)) (by omega) ?_
          refine lv_aload_n hx hb dX5_order_35 rfl (lv_at hl 1 rfl) ?_
          refine x_get (T := TX5) (N := 17) hx hb hts uX5 hown hK hP (i := 53) (by omega) hM.1 rfl 3 (by decide) u_fl_RX5_19 rfl dX5_order_36 ?_
          refine lv_iload_n hx hb dX5_order_39 rfl (lv_at hl 3 rfl) ?_
          refine x_ild hx hb hK hP (i := 57) (by omega) hM.2.2.2.2.1 (x := (r_t2.1 : Int)) (by omega) (congrArg xI hz_t2) dX5_order_40 ?_
          have hob := sp_ord_b hm_t1 hm_t2 hfb_t1 hfb_t2
          refine xs_i (As := [.ref (ad 56), .int (xI ((200 * t1 : Nat) : Int)), .int (xI (r_t1.1 : Int)), .int (xI ((200 * t2 : Nat) : Int)), .int (xI (r_t2.1 : Int))]) (rest := []) ⟨hx, hb, hml, hown, hts⟩ hl.1 (c_X5_orderOf l D cA n ad en hn (q0 := 56) (L9 := 1600) (g9 := M.told) (by omega) hM.2.2.2.1 (200 * t1) r_t1.1 (200 * t2) r_t2.1 (by omega) (by omega) (by omega) hT_t1.2 hfb_t1 hT_t2.2 hfb_t2 hm_t1 hm_t2) k_X5_orderOf u_ml_RX5_121 rfl rfl (Nat.le_of_ble_eq_true rfl) ⟨Nat.le_of_ble_eq_true rfl, Nat.le_of_ble_eq_true rfl⟩ ⟨Nat.le_of_ble_eq_true rfl, Nat.le_of_ble_eq_true rfl⟩ dX5_order_41 hK hN hP ?_
          exact xr_i hx hb hrt hlocks ((by unfold am_order; simp only [Int.toNat_natCast]; simp only [sp_get_s hS_t1, sp_get_s hS_t2]; rw [sp_if_f (by omega), sp_if_f (by simp [hS_t1, hS_t2])])) dX5_order_44
      · have hT_t1 : M.toldMany t1 = (r_t1.1 : Int) ∧ ∀ k : Nat, k < r_t1.1 → M.told (200 * t1 + k) = r_t1.2 k := by have q := hR.2.1 t1 h_t1; rw [hS_t1] at q; exact q
        have hz_t1 := hT_t1.1
        have hm_t1 := (hW.2.1 t1 r_t1 h_t1 hS_t1).1
        have hfb_t1 := (hW.2.1 t1 r_t1 h_t1 hS_t1).2
        refine lv_aload_n hx hb dX5_order_0 rfl (lv_at hl 0 rfl) ?_
        refine lv_iload_n hx hb dX5_order_1 rfl (lv_at hl 1 rfl) ?_
        refine lv_iload_n hx hb dX5_order_2 rfl (lv_at hl 2 rfl) ?_
        have hy_t1 : M.toldMany (Int.toNat (t1 : Int)) = (r_t1.1 : Int) := hz_t1
        refine xv_i (i := 53) (As := [.int (xI (t1 : Int)), .int (xI z2)]) (rest := []) ⟨hx, hb, hml, hown, hts⟩ hl.1 (c_X5_barsTwo l D cA n ad en hn hM (t1 : Int) z2 (-1001) (by omega) (by omega) (fun _ => by show -1 ≤ M.toldMany t1 ∧ M.toldMany t1 ≤ 200; omega) (fun h => absurd h (by omega)) (by omega)) k_X5_barsTwo u_ml_RX5_128 hK hN hP (by omega) hM.1 rfl rfl rfl rfl (Nat.le_of_ble_eq_true rfl) ⟨Nat.le_of_ble_eq_true rfl, Nat.le_of_ble_eq_true rfl⟩ ⟨Nat.le_of_ble_eq_true rfl, Nat.le_of_ble_eq_true rfl⟩ dX5_order_3 ?_
        refine lv_istore_n (lv' := [(3, .int (xI (-1001))), (0, .ref (ad 53)), (1, .int (xI (t1 : Int))), (2, .int (xI z2))]) hx hb dX5_order_6 rfl hl (by decide) rfl (fun ls hl => ?_)
        refine lv_iload_n hx hb dX5_order_7 rfl (lv_at hl 0 rfl) ?_
        refine x_if_ge (tgt := 15) hx hb dX5_order_8 (by decide) (by omega) (fun c_8 => absurd c_8 (by omega)) (fun c_8 => ?_)
        refine lv_iload_n hx hb dX5_order_11 rfl (lv_at hl 0 rfl) ?_
        refine lv_goto (tgt := 44) hx hb dX5_order_12 (by decide) ?_
        exact xr_i hx hb hrt hlocks ((by unfold am_order; simp only [Int.toNat_natCast]; simp only [sp_get_s hS_t1]; rw [sp_if_t (by omega)])) dX5_order_44
  · rcases Classical.em (0 ≤ z2 ∧ z2 < 8) with hx_z2 | hx_z2
    · obtain ⟨t2, rfl⟩ : ∃ q : Nat, z2 = (q : Int) := ⟨z2.toNat, by omega⟩
      have h_t2 : t2 < 8 := by omega
      rcases hS_t2 : S.2.1 t2 with _ | r_t2
      · have hz_t2 : M.toldMany t2 = -1 := by have q := hR.2.1 t2 h_t2; rw [hS_t2] at q; exact q
        refine lv_aload_n hx hb dX5_order_0 rfl (lv_at hl 0 rfl) ?_
        refine lv_iload_n hx hb dX5_order_1 rfl (lv_at hl 1 rfl) ?_
        refine lv_iload_n hx hb dX5_order_2 rfl (lv_at hl 2 rfl) ?_
        have hy_t2 : M.toldMany (Int.toNat (t2 : Int)) = -1 := hz_t2
        refine xv_i (i := 53) (As := [.int (xI z1), .int (xI (t2 : Int))]) (rest := []) ⟨hx, hb, hml, hown, hts⟩ hl.1 (c_X5_barsTwo l D cA n ad en hn hM z1 (t2 : Int) (-1001) (by omega) (by omega) (fun h => absurd h (by omega)) (fun _ => by show -1 ≤ M.toldMany t2 ∧ M.toldMany t2 ≤ 200; omega) (by omega)) k_X5_barsTwo u_ml_RX5_128 hK hN hP (by omega) hM.1 rfl rfl rfl rfl (Nat.le_of_ble_eq_true rfl) ⟨Nat.le_of_ble_eq_true rfl, Nat.le_of_ble_eq_true rfl⟩ ⟨Nat.le_of_ble_eq_true rfl, Nat.le_of_ble_eq_true rfl⟩ dX5_order_3 ?_
        refine lv_istore_n (lv' := [(3, .int (xI (-1001))), (0, .ref (ad 53)), (1, .int (xI z1)), (2, .int (xI (t2 : Int)))]) hx hb dX5_order_6 rfl hl (by decide) rfl (fun ls hl => ?_)
        refine lv_iload_n hx hb dX5_order_7 rfl (lv_at hl 0 rfl) ?_
        refine x_if_ge (tgt := 15) hx hb dX5_order_8 (by decide) (by omega) (fun c_8 => absurd c_8 (by omega)) (fun c_8 => ?_)
        refine lv_iload_n hx hb dX5_order_11 rfl (lv_at hl 0 rfl) ?_
        refine lv_goto (tgt := 44) hx hb dX5_order_12 (by decide) ?_
        exact xr_i hx hb hrt hlocks ((by unfold am_order; simp only [Int.toNat_natCast]; rw [sp_if_t (by omega)])) dX5_order_44
      · have hT_t2 : M.toldMany t2 = (r_t2.1 : Int) ∧ ∀ k : Nat, k < r_t2.1 → M.told (200 * t2 + k) = r_t2.2 k := by have q := hR.2.1 t2 h_t2; rw [hS_t2] at q; exact q
        have hz_t2 := hT_t2.1
        have hm_t2 := (hW.2.1 t2 r_t2 h_t2 hS_t2).1
        have hfb_t2 := (hW.2.1 t2 r_t2 h_t2 hS_t2).2
        refine lv_aload_n hx hb dX5_order_0 rfl (lv_at hl 0 rfl) ?_
        refine lv_iload_n hx hb dX5_order_1 rfl (lv_at hl 1 rfl) ?_
        refine lv_iload_n hx hb dX5_order_2 rfl (lv_at hl 2 rfl) ?_
        have hy_t2 : M.toldMany (Int.toNat (t2 : Int)) = (r_t2.1 : Int) := hz_t2
        refine xv_i (i := 53) (As := [.int (xI z1), .int (xI (t2 : Int))]) (rest := []) ⟨hx, hb, hml, hown, hts⟩ hl.1 (c_X5_barsTwo l D cA n ad en hn hM z1 (t2 : Int) (-1001) (by omega) (by omega) (fun h => absurd h (by omega)) (fun _ => by show -1 ≤ M.toldMany t2 ∧ M.toldMany t2 ≤ 200; omega) (by omega)) k_X5_barsTwo u_ml_RX5_128 hK hN hP (by omega) hM.1 rfl rfl rfl rfl (Nat.le_of_ble_eq_true rfl) ⟨Nat.le_of_ble_eq_true rfl, Nat.le_of_ble_eq_true rfl⟩ ⟨Nat.le_of_ble_eq_true rfl, Nat.le_of_ble_eq_true rfl⟩ dX5_order_3 ?_
        refine lv_istore_n (lv' := [(3, .int (xI (-1001))), (0, .ref (ad 53)), (1, .int (xI z1)), (2, .int (xI (t2 : Int)))]) hx hb dX5_order_6 rfl hl (by decide) rfl (fun ls hl => ?_)
        refine lv_iload_n hx hb dX5_order_7 rfl (lv_at hl 0 rfl) ?_
        refine x_if_ge (tgt := 15) hx hb dX5_order_8 (by decide) (by omega) (fun c_8 => absurd c_8 (by omega)) (fun c_8 => ?_)
        refine lv_iload_n hx hb dX5_order_11 rfl (lv_at hl 0 rfl) ?_
        refine lv_goto (tgt := 44) hx hb dX5_order_12 (by decide) ?_
        exact xr_i hx hb hrt hlocks ((by unfold am_order; simp only [Int.toNat_natCast]; simp only [sp_get_s hS_t2]; rw [sp_if_t (by omega)])) dX5_order_44
    · refine lv_aload_n hx hb dX5_order_0 rfl (lv_at hl 0 rfl) ?_
      refine lv_iload_n hx hb dX5_order_1 rfl (lv_at hl 1 rfl) ?_
      refine lv_iload_n hx hb dX5_order_2 rfl (lv_at hl 2 rfl) ?_
      refine xv_i (i := 53) (As := [.int (xI z1), .int (xI z2)]) (rest := []) ⟨hx, hb, hml, hown, hts⟩ hl.1 (c_X5_barsTwo l D cA n ad en hn hM z1 z2 (-1001) (by omega) (by omega) (fun h => absurd h (by omega)) (fun h => absurd h (by omega)) (by omega)) k_X5_barsTwo u_ml_RX5_128 hK hN hP (by omega) hM.1 rfl rfl rfl rfl (Nat.le_of_ble_eq_true rfl) ⟨Nat.le_of_ble_eq_true rfl, Nat.le_of_ble_eq_true rfl⟩ ⟨Nat.le_of_ble_eq_true rfl, Nat.le_of_ble_eq_true rfl⟩ dX5_order_3 ?_
      refine lv_istore_n (lv' := [(3, .int (xI (-1001))), (0, .ref (ad 53)), (1, .int (xI z1)), (2, .int (xI z2))]) hx hb dX5_order_6 rfl hl (by decide) rfl (fun ls hl => ?_)
      refine lv_iload_n hx hb dX5_order_7 rfl (lv_at hl 0 rfl) ?_
      refine x_if_ge (tgt := 15) hx hb dX5_order_8 (by decide) (by omega) (fun c_8 => absurd c_8 (by omega)) (fun c_8 => ?_)
      refine lv_iload_n hx hb dX5_order_11 rfl (lv_at hl 0 rfl) ?_
      refine lv_goto (tgt := 44) hx hb dX5_order_12 (by decide) ?_
      exact xr_i hx hb hrt hlocks ((by unfold am_order; rw [sp_if_t (by omega)])) dX5_order_44

set_option maxRecDepth 20000 in
theorem c_X5_begins (l : Launch) (D : va_G) (cA : Nat → ClassId) (n : Nat) (ad : Nat → Nat) (en : Nat → va_E) (sz : Nat) (hn : 68 ≤ n) {M : MO} (hM : MW cA ad en M) {S : xSt} (hW : WF S) (hR : MR S M) (z1 : Int) (hz1 : -2147483648 ≤ z1 ∧ z1 ≤ 2147483647) (z2 : Int) (hz2 : -2147483648 ≤ z2 ∧ z2 ≤ 2147483647) (z3 : Int) (hz3 : -2147483648 ≤ z3 ∧ z3 ≤ 2147483647) : Met l yX5_begins (Cond.code yX5_begins cX5_begins 5 (some .int) :: xU) (xrm 3 67) (va_Pc [.ref (ad 53), .int (xI z1), .int (xI z2), .int (xI z3)] (xM D cA n ad en sz)) (va_Qi (fun r u => r = xI (am_begins S z1 z2 z3) ∧ ∃ M' : MO, MW cA ad u M' ∧ MR S M' ∧ xO 53 68 en u) (xE D n ad) (xA n ad sz)) 0 0 (xA n ad sz) := by
  refine xmet (by decide) (Nat.le_of_ble_eq_true rfl) (fun p e s mm args below meth c ls hx hb hrt hml hown hts hlocks hname hB hl => ?_)
  obtain ⟨⟨hP, hK, hN⟩, hsz, hDt⟩ := hB
  have hD : xD (xA n ad sz) n ad := xD_self hDt sz
  have hA : ∀ q : Nat, s.heap.size ≤ q → xA n ad sz q := fun q h => Or.inr (by rw [← hsz]; exact h)
  have hS : va_S (xA n ad sz) s.heap s.heap [] := va_S.rf
  have hown : s.vm.findClass RX5 = some mm.cls := hown
  have hl : lv_has ls 5 [(0, .ref (ad 53)), (1, .int (xI z1)), (2, .int (xI z2)), (3, .int (xI z3))] := hl
  have ho : xO 53 68 en en := xO.rf
  rcases Classical.em (0 ≤ z1 ∧ z1 < 8) with hx_z1 | hx_z1
  · obtain ⟨t1, rfl⟩ : ∃ q : Nat, z1 = (q : Int) := ⟨z1.toNat, by omega⟩
    have h_t1 : t1 < 8 := by omega
    rcases hS_t1 : S.2.1 t1 with _ | r_t1
    · rcases Classical.em (0 ≤ z2 ∧ z2 < 8) with hx_z2 | hx_z2
      · obtain ⟨t2, rfl⟩ : ∃ q : Nat, z2 = (q : Int) := ⟨z2.toNat, by omega⟩
        have h_t2 : t2 < 8 := by omega
        rcases hS_t2 : S.2.1 t2 with _ | r_t2
        · have hz_t1 : M.toldMany t1 = -1 := by have q := hR.2.1 t1 h_t1; rw [hS_t1] at q; exact q
          have hz_t2 : M.toldMany t2 = -1 := by have q := hR.2.1 t2 h_t2; rw [hS_t2] at q; exact q
          refine lv_aload_n hx hb dX5_begins_0 rfl (lv_at hl 0 rfl) ?_
          refine lv_iload_n hx hb dX5_begins_1 rfl (lv_at hl 1 rfl) ?_
          refine lv_iload_n hx hb dX5_begins_2 rfl (lv_at hl 2 rfl) ?_
          have hy_t1 : M.toldMany (Int.toNat (t1 : Int)) = -1 := hz_t1
          have hy_t2 : M.toldMany (Int.toNat (t2 : Int)) = -1 := hz_t2
          refine xv_i (i := 53) (As := [.int (xI (t1 : Int)), .int (xI (t2 : Int))]) (rest := []) ⟨hx, hb, hml, hown, hts⟩ hl.1 (c_X5_barsTwo l D cA n ad en hn hM (t1 : Int) (t2 : Int) (-1003) (by omega) (by omega) (fun _ => by show -1 ≤ M.toldMany t1 ∧ M.toldMany t1 ≤ 200; omega) (fun _ => by show -1 ≤ M.toldMany t2 ∧ M.toldMany t2 ≤ 200; omega) (by omega)) k_X5_barsTwo u_ml_RX5_128 hK hN hP (by omega) hM.1 rfl rfl rfl rfl (Nat.le_of_ble_eq_true rfl) ⟨Nat.le_of_ble_eq_true rfl, Nat.le_of_ble_eq_true rfl⟩ ⟨Nat.le_of_ble_eq_true rfl, Nat.le_of_ble_eq_true rfl⟩ dX5_begins_3 ?_
          refine lv_istore (lv' := [(4, .int (xI (-1003))), (0, .ref (ad 53)), (1, .int (xI (t1 : Int))), (2, .int (xI (t2 : Int))), (3, .int (xI z3))]) hx hb dX5_begins_6 hl (by decide) rfl (fun ls hl => ?_)
          refine lv_iload hx hb dX5_begins_8 (lv_at hl 0 rfl) ?_
          refine x_if_ge (tgt := 16) hx hb dX5_begins_10 (by decide) (by omega) (fun c_10 => absurd c_10 (by omega)) (fun c_10 => ?_)
          refine lv_iload hx hb dX5_begins_13 (lv_at hl 0 rfl) ?_
          exact xe_i hx hb hrt hlocks hP hS ((by unfold am_begins; simp only [Int.toNat_natCast]; rw [sp_if_f (by omega), sp_if_t (by simp [hS_t1, hS_t2])]; exact ⟨rfl, _, hM, hR, ho⟩)) dX5_begins_15
        · have hz_t1 : M.toldMany t1 = -1 := by have q := hR.2.1 t1 h_t1; rw [hS_t1] at q; exact q
          have hT_t2 : M.toldMany t2 = (r_t2.1 : Int) ∧ ∀ k : Nat, k < r_t2.1 → M.told (200 * t2 + k) = r_t2.2 k := by have q := hR.2.1 t2 h_t2; rw [hS_t2] at q; exact q
          have hz_t2 := hT_t2.1
          have hm_t2 := (hW.2.1 t2 r_t2 h_t2 hS_t2).1
          have hfb_t2 := (hW.2.1 t2 r_t2 h_t2 hS_t2).2
          refine lv_aload_n hx hb dX5_begins_0 rfl (lv_at hl 0 rfl) ?_
          refine lv_iload_n hx hb dX5_begins_1 rfl (lv_at hl 1 rfl) ?_
          refine lv_iload_n hx hb dX5_begins_2 rfl (lv_at hl 2 rfl) ?_
          have hy_t1 : M.toldMany (Int.toNat (t1 : Int)) = -1 := hz_t1
          have hy_t2 : M.toldMany (Int.toNat (t2 : Int)) = (r_t2.1 : Int) := hz_t2
          refine xv_i (i := 53) (As := [.int (xI (t1 : Int)), .int (xI (t2 : Int))]) (rest := []) ⟨hx, hb, hml, hown, hts⟩ hl.1 (c_X5_barsTwo l D cA n ad en hn hM (t1 : Int) (t2 : Int) (-1003) (by omega) (by omega) (fun _ => by show -1 ≤ M.toldMany t1 ∧ M.toldMany t1 ≤ 200; omega) (fun _ => by show -1 ≤ M.toldMany t2 ∧ M.toldMany t2 ≤ 200; omega) (by omega)) k_X5_barsTwo u_ml_RX5_128 hK hN hP (by omega) hM.1 rfl rfl rfl rfl (Nat.le_of_ble_eq_true rfl) ⟨Nat.le_of_ble_eq_true rfl, Nat.le_of_ble_eq_true rfl⟩ ⟨Nat.le_of_ble_eq_true rfl, Nat.le_of_ble_eq_true rfl⟩ dX5_begins_3 ?_
          refine lv_istore (lv' := [(4, .int (xI (-1003))), (0, .ref (ad 53)), (1, .int (xI (t1 : Int))), (2, .int (xI (t2 : Int))), (3, .int (xI z3))]) hx hb dX5_begins_6 hl (by decide) rfl (fun ls hl => ?_)
          refine lv_iload hx hb dX5_begins_8 (lv_at hl 0 rfl) ?_
          refine x_if_ge (tgt := 16) hx hb dX5_begins_10 (by decide) (by omega) (fun c_10 => absurd c_10 (by omega)) (fun c_10 => ?_)
          refine lv_iload hx hb dX5_begins_13 (lv_at hl 0 rfl) ?_
          exact xe_i hx hb hrt hlocks hP hS ((by unfold am_begins; simp only [Int.toNat_natCast]; simp only [sp_get_s hS_t2]; rw [sp_if_f (by omega), sp_if_t (by simp [hS_t1, hS_t2])]; exact ⟨rfl, _, hM, hR, ho⟩)) dX5_begins_15
      · have hz_t1 : M.toldMany t1 = -1 := by have q := hR.2.1 t1 h_t1; rw [hS_t1] at q; exact q
        refine lv_aload_n hx hb dX5_begins_0 rfl (lv_at hl 0 rfl) ?_
        refine lv_iload_n hx hb dX5_begins_1 rfl (lv_at hl 1 rfl) ?_
        refine lv_iload_n hx hb dX5_begins_2 rfl (lv_at hl 2 rfl) ?_
        have hy_t1 : M.toldMany (Int.toNat (t1 : Int)) = -1 := hz_t1
        refine xv_i (i := 53) (As := [.int (xI (t1 : Int)), .int (xI z2)]) (rest := []) ⟨hx, hb, hml, hown, hts⟩ hl.1 (c_X5_barsTwo l D cA n ad en hn hM (t1 : Int) z2 (-1001) (by omega) (by omega) (fun _ => by show -1 ≤ M.toldMany t1 ∧ M.toldMany t1 ≤ 200; omega) (fun h => absurd h (by omega)) (by omega)) k_X5_barsTwo u_ml_RX5_128 hK hN hP (by omega) hM.1 rfl rfl rfl rfl (Nat.le_of_ble_eq_true rfl) ⟨Nat.le_of_ble_eq_true rfl, Nat.le_of_ble_eq_true rfl⟩ ⟨Nat.le_of_ble_eq_true rfl, Nat.le_of_ble_eq_true rfl⟩ dX5_begins_3 ?_
        refine lv_istore (lv' := [(4, .int (xI (-1001))), (0, .ref (ad 53)), (1, .int (xI (t1 : Int))), (2, .int (xI z2)), (3, .int (xI z3))]) hx hb dX5_begins_6 hl (by decide) rfl (fun ls hl => ?_)
        refine lv_iload hx hb dX5_begins_8 (lv_at hl 0 rfl) ?_
        refine x_if_ge (tgt := 16) hx hb dX5_begins_10 (by decide) (by omega) (fun c_10 => absurd c_10 (by omega)) (fun c_10 => ?_)
        refine lv_iload hx hb dX5_begins_13 (lv_at hl 0 rfl) ?_
        exact xe_i hx hb hrt hlocks hP hS ((by unfold am_begins; simp only [Int.toNat_natCast]; rw [sp_if_t (by omega)]; exact ⟨rfl, _, hM, hR, ho⟩)) dX5_begins_15
    · rcases Classical.em (0 ≤ z2 ∧ z2 < 8) with hx_z2 | hx_z2
      · obtain ⟨t2, rfl⟩ : ∃ q : Nat, z2 = (q : Int) := ⟨z2.toNat, by omega⟩
        have h_t2 : t2 < 8 := by omega
        rcases hS_t2 : S.2.1 t2 with _ | r_t2
        · have hT_t1 : M.toldMany t1 = (r_t1.1 : Int) ∧ ∀ k : Nat, k < r_t1.1 → M.told (200 * t1 + k) = r_t1.2 k := by have q := hR.2.1 t1 h_t1; rw [hS_t1] at q; exact q
          have hz_t1 := hT_t1.1
          have hm_t1 := (hW.2.1 t1 r_t1 h_t1 hS_t1).1
          have hfb_t1 := (hW.2.1 t1 r_t1 h_t1 hS_t1).2
          have hz_t2 : M.toldMany t2 = -1 := by have q := hR.2.1 t2 h_t2; rw [hS_t2] at q; exact q
          refine lv_aload_n hx hb dX5_begins_0 rfl (lv_at hl 0 rfl) ?_
          refine lv_iload_n hx hb dX5_begins_1 rfl (lv_at hl 1 rfl) ?_
          refine lv_iload_n hx hb dX5_begins_2 rfl (lv_at hl 2 rfl) ?_
          have hy_t1 : M.toldMany (Int.toNat (t1 : Int)) = (r_t1.1 : Int) := hz_t1
          have hy_t2 : M.toldMany (Int.toNat (t2 : Int)) = -1 := hz_t2
          refine xv_i (i := 53) (As := [.int (xI (t1 : Int)), .int (xI (t2 : Int))]) (rest := []) ⟨hx, hb, hml, hown, hts⟩ hl.1 (c_X5_barsTwo l D cA n ad en hn hM (t1 : Int) (t2 : Int) (-1003) (by omega) (by omega) (fun _ => by show -1 ≤ M.toldMany t1 ∧ M.toldMany t1 ≤ 200; omega) (fun _ => by show -1 ≤ M.toldMany t2 ∧ M.toldMany t2 ≤ 200; omega) (by omega)) k_X5_barsTwo u_ml_RX5_128 hK hN hP (by omega) hM.1 rfl rfl rfl rfl (Nat.le_of_ble_eq_true rfl) ⟨Nat.le_of_ble_eq_true rfl, Nat.le_of_ble_eq_true rfl⟩ ⟨Nat.le_of_ble_eq_true rfl, Nat.le_of_ble_eq_true rfl⟩ dX5_begins_3 ?_
          refine lv_istore (lv' := [(4, .int (xI (-1003))), (0, .ref (ad 53)), (1, .int (xI (t1 : Int))), (2, .int (xI (t2 : Int))), (3, .int (xI z3))]) hx hb dX5_begins_6 hl (by decide) rfl (fun ls hl => ?_)
          refine lv_iload hx hb dX5_begins_8 (lv_at hl 0 rfl) ?_
          refine x_if_ge (tgt := 16) hx hb dX5_begins_10 (by decide) (by omega) (fun c_10 => absurd c_10 (by omega)) (fun c_10 => ?_)
          refine lv_iload hx hb dX5_begins_13 (lv_at hl 0 rfl) ?_
          exact xe_i hx hb hrt hlocks hP hS ((by unfold am_begins; simp only [Int.toNat_natCast]; simp only [sp_get_s hS_t1]; rw [sp_if_f (by omega), sp_if_t (by simp [hS_t1, hS_t2])]; exact ⟨rfl, _, hM, hR, ho⟩)) dX5_begins_15
        · have hT_t1 : M.toldMany t1 = (r_t1.1 : Int) ∧ ∀ k : Nat, k < r_t1.1 → M.told (200 * t1 + k) = r_t1.2 k := by have q := hR.2.1 t1 h_t1; rw [hS_t1] at q; exact q
          have hz_t1 := hT_t1.1
          have hm_t1 := (hW.2.1 t1 r_t1 h_t1 hS_t1).1
          have hfb_t1 := (hW.2.1 t1 r_t1 h_t1 hS_t1).2
          have hT_t2 : M.toldMany t2 = (r_t2.1 : Int) ∧ ∀ k : Nat, k < r_t2.1 → M.told (200 * t2 + k) = r_t2.2 k := by have q := hR.2.1 t2 h_t2; rw [hS_t2] at q; exact q
          have hz_t2 := hT_t2.1
          have hm_t2 := (hW.2.1 t2 r_t2 h_t2 hS_t2).1
          have hfb_t2 := (hW.2.1 t2 r_t2 h_t2 hS_t2).2
          refine lv_aload_n hx hb dX5_begins_0 rfl (lv_at hl 0 rfl) ?_
          refine lv_iload_n hx hb dX5_begins_1 rfl (lv_at hl 1 rfl) ?_
          refine lv_iload_n hx hb dX5_begins_2 rfl (lv_at hl 2 rfl) ?_
          have hy_t1 : M.toldMany (Int.toNat (t1 : Int)) = (r_t1.1 : Int) := hz_t1
          have hy_t2 : M.toldMany (Int.toNat (t2 : Int)) = (r_t2.1 : Int) := hz_t2
          refine xv_i (i := 53) (As := [.int (xI (t1 : Int)), .int (xI (t2 : Int))]) (rest := []) ⟨hx, hb, hml, hown, hts⟩ hl.1 (c_X5_barsTwo l D cA n ad en hn hM (t1 : Int) (t2 : Int) 0 (by omega) (by omega) (fun _ => by show -1 ≤ M.toldMany t1 ∧ M.toldMany t1 ≤ 200; omega) (fun _ => by show -1 ≤ M.toldMany t2 ∧ M.toldMany t2 ≤ 200; omega) (by omega)) k_X5_barsTwo u_ml_RX5_128 hK hN hP (by omega) hM.1 rfl rfl rfl rfl (Nat.le_of_ble_eq_true rfl) ⟨Nat.le_of_ble_eq_true rfl, Nat.le_of_ble_eq_true rfl⟩ ⟨Nat.le_of_ble_eq_true rfl, Nat.le_of_ble_eq_true rfl⟩ dX5_begins_3 ?_
          refine lv_istore (lv' := [(4, .int (xI 0)), (0, .ref (ad 53)), (1, .int (xI (t1 : Int))), (2, .int (xI (t2 : Int))), (3, .int (xI z3))]) hx hb dX5_begins_6 hl (by decide) rfl (fun ls hl => ?_)
          refine lv_iload hx hb dX5_begins_8 (lv_at hl 0 rfl) ?_
          refine x_if_ge (tgt := 16) hx hb dX5_begins_10 (by decide) (by omega) (fun c_10 => ?_) (fun c_10 => absurd c_10 (by omega))
          refine lv_aload_n hx hb dX5_begins_16 rfl (lv_at hl 1 rfl) ?_
          refine lv_iload_n hx hb dX5_begins_17 rfl (lv_at hl 3 rfl) ?_
          refine xm_v (i := 53) (As := [.int (xI (t2 : Int))]) (rest := []) ⟨hx, hb, hml, hown, hts⟩ hl.1 (c_X5_layText_some l D cA n ad en _ hn hM t2 h_t2 (r := r_t2) hz_t2 hm_t2 hT_t2.2) k_X5_layText u_ml_RX5_90 hK hN hP (by omega) hM.1 rfl rfl rfl rfl (Nat.le_of_ble_eq_true rfl) ⟨Nat.le_of_ble_eq_true rfl, Nat.le_of_ble_eq_true rfl⟩ ⟨Nat.le_of_ble_eq_true rfl, Nat.le_of_ble_eq_true rfl⟩ dX5_begins_18 hD hS hA (fun en1 H locs hp1 hP hS => ?_)
          obtain ⟨F9, hF9, hM, ho2⟩ := hp1
          have hM : MW cA ad en1 (mO M.built M.builtMany M.told M.toldMany F9 (r_t2.1 : Int) M.figures M.partText M.partFrom M.partMany M.parts M.cut M.cutMany M.isCut M.cutGives M.cutAt M.h) := hM
          have ho := ho.tr ho2
          refine lv_aload_n hx hb dX5_begins_21 rfl (lv_at hl 1 rfl) ?_
          refine lv_aload_n hx hb dX5_begins_22 rfl (lv_at hl 1 rfl) ?_
          refine x_get (T := TX5) (N := 17) hx hb hts uX5 hown hK hP (i := 53) (by omega) (show en1 53 = .inr (5, [.ref (ad 54), .ref (ad 55), .ref (ad 56), .ref (ad 57), .ref (ad 58), .int (xI (r_t2.1 : Int)), .ref (ad 59), .ref (ad 60), .ref (ad 61), .ref (ad 62), .int (xI M.parts), .ref (ad 63), .ref (ad 64), .ref (ad 65), .ref (ad 66), .ref (ad 67), .long M.h]) from hM.1) rfl 2 (by decide) u_fl_RX5_16 rfl dX5_begins_23 ?_
          refine x_sipush hx hb dX5_begins_26 (by decide +kernel) ?_
          refine lv_iload_n hx hb dX5_begins_29 rfl (lv_at hl 2 rfl) ?_
          refine x_imul hx hb dX5_begins_30 ?_
          refine x_to (((200 * t1 : Nat) : Int)) (by omega) ?_
          refine lv_aload_n hx hb dX5_begins_31 rfl (lv_at hl 1 rfl) ?_
          refine x_get (T := TX5) (N := 17) hx hb hts uX5 hown hK hP (i := 53) (by omega) (show en1 53 = .inr (5, [.ref (ad 54), .ref (ad 55), .ref (ad 56), .ref (ad 57), .ref (ad 58), .int (xI (r_t2.1 : Int)), .ref (ad 59), .ref (ad 60), .ref (ad 61), .ref (ad 62), .int (xI M.parts), .ref (ad 63), .ref (ad 64), .ref (ad 65), .ref (ad 66), .ref (ad 67), .long M.h]) from hM.1) rfl 3 (by decide) u_fl_RX5_19 rfl dX5_begins_32 ?_
          refine lv_iload_n hx hb dX5_begins_35 rfl (lv_at hl 2 rfl) ?_
          refine x_ild hx hb hK hP (i := 57) (by omega) hM.2.2.2.2.1 (x := (r_t1.1 : Int)) (by omega) (congrArg xI hz_t1) dX5_begins_36 ?_
          refine lv_iload_n hx hb dX5_begins_37 rfl (lv_at hl 4 rfl) ?_
          refine xv_i (i := 53) (As := [.ref (ad 56), .int (xI ((200 * t1 : Nat) : Int)), .int (xI (r_t1.1 : Int)), .int (xI z3)]) (rest := []) ⟨hx, hb, hml, hown, hts⟩ hl.1 (c_X5_stands l D cA n ad en1 hn hM (q0 := 56) (L9 := 1600) (g9 := M.told) (h := r_t2.2) (by omega) hM.2.2.2.1 (200 * t1) r_t1.1 (by omega) (by omega) hT_t1.2 hfb_t1 hm_t1 r_t2.1 (show (r_t2.1 : Int) = ((r_t2.1 : Nat) : Int) from rfl) (by omega) hF9 (fun k hk => hfb_t2 k hk) z3 (by omega)) k_X5_stands u_ml_RX5_107 hK hN hP (by omega) (show en1 53 = .inr (5, [.ref (ad 54), .ref (ad 55), .ref (ad 56), .ref (ad 57), .ref (ad 58), .int (xI (r_t2.1 : Int)), .ref (ad 59), .ref (ad 60), .ref (ad 61), .ref (ad 62), .int (xI M.parts), .ref (ad 63), .ref (ad 64), .ref (ad 65), .ref (ad 66), .ref (ad 67), .long M.h]) from hM.1) rfl rfl rfl rfl (Nat.le_of_ble_eq_true rfl) ⟨Nat.le_of_ble_eq_true rfl, Nat.le_of_ble_eq_true rfl⟩ ⟨Nat.le_of_ble_eq_true rfl, Nat.le_of_ble_eq_true rfl⟩ dX5_begins_38 ?_
          refine x_ifb_eq (tgt := 48) hx hb dX5_begins_41 (by decide)  (fun c_41 => ?_) (fun c_41 => ?_)
          · refine x_iconst hx hb dX5_begins_48 ?_
            exact xe_i hx hb hrt hlocks hP hS ((by unfold am_begins; simp only [Int.toNat_natCast]; simp only [sp_get_s hS_t1, sp_get_s hS_t2]; rw [sp_if_f (by omega), sp_if_f (by simp [hS_t1, hS_t2])]; rw [xd_f c_41]; exact ⟨rfl, _, hM, hR, ho⟩)) dX5_begins_49
          · refine x_iconst hx hb dX5_begins_44 ?_
            refine lv_goto (tgt := 49) hx hb dX5_begins_45 (by decide) ?_
            exact xe_i hx hb hrt hlocks hP hS ((by unfold am_begins; simp only [Int.toNat_natCast]; simp only [sp_get_s hS_t1, sp_get_s hS_t2]; rw [sp_if_f (by omega), sp_if_f (by simp [hS_t1, hS_t2])]; rw [xd_t c_41]; exact ⟨rfl, _, hM, hR, ho⟩)) dX5_begins_49
      · have hT_t1 : M.toldMany t1 = (r_t1.1 : Int) ∧ ∀ k : Nat, k < r_t1.1 → M.told (200 * t1 + k) = r_t1.2 k := by have q := hR.2.1 t1 h_t1; rw [hS_t1] at q; exact q
        have hz_t1 := hT_t1.1
        have hm_t1 := (hW.2.1 t1 r_t1 h_t1 hS_t1).1
        have hfb_t1 := (hW.2.1 t1 r_t1 h_t1 hS_t1).2
        refine lv_aload_n hx hb dX5_begins_0 rfl (lv_at hl 0 rfl) ?_
        refine lv_iload_n hx hb dX5_begins_1 rfl (lv_at hl 1 rfl) ?_
        refine lv_iload_n hx hb dX5_begins_2 rfl (lv_at hl 2 rfl) ?_
        have hy_t1 : M.toldMany (Int.toNat (t1 : Int)) = (r_t1.1 : Int) := hz_t1
        refine xv_i (i := 53) (As := [.int (xI (t1 : Int)), .int (xI z2)]) (rest := []) ⟨hx, hb, hml, hown, hts⟩ hl.1 (c_X5_barsTwo l D cA n ad en hn hM (t1 : Int) z2 (-1001) (by omega) (by omega) (fun _ => by show -1 ≤ M.toldMany t1 ∧ M.toldMany t1 ≤ 200; omega) (fun h => absurd h (by omega)) (by omega)) k_X5_barsTwo u_ml_RX5_128 hK hN hP (by omega) hM.1 rfl rfl rfl rfl (Nat.le_of_ble_eq_true rfl) ⟨Nat.le_of_ble_eq_true rfl, Nat.le_of_ble_eq_true rfl⟩ ⟨Nat.le_of_ble_eq_true rfl, Nat.le_of_ble_eq_true rfl⟩ dX5_begins_3 ?_
        refine lv_istore (lv' := [(4, .int (xI (-1001))), (0, .ref (ad 53)), (1, .int (xI (t1 : Int))), (2, .int (xI z2)), (3, .int (xI z3))]) hx hb dX5_begins_6 hl (by decide) rfl (fun ls hl => ?_)
        refine lv_iload hx hb dX5_begins_8 (lv_at hl 0 rfl) ?_
        refine x_if_ge (tgt := 16) hx hb dX5_begins_10 (by decide) (by omega) (fun c_10 => absurd c_10 (by omega)) (fun c_10 => ?_)
        refine lv_iload hx hb dX5_begins_13 (lv_at hl 0 rfl) ?_
        exact xe_i hx hb hrt hlocks hP hS ((by unfold am_begins; simp only [Int.toNat_natCast]; simp only [sp_get_s hS_t1]; rw [sp_if_t (by omega)]; exact ⟨rfl, _, hM, hR, ho⟩)) dX5_begins_15
  · rcases Classical.em (0 ≤ z2 ∧ z2 < 8) with hx_z2 | hx_z2
    · obtain ⟨t2, rfl⟩ : ∃ q : Nat, z2 = (q : Int) := ⟨z2.toNat, by omega⟩
      have h_t2 : t2 < 8 := by omega
      rcases hS_t2 : S.2.1 t2 with _ | r_t2
      · have hz_t2 : M.toldMany t2 = -1 := by have q := hR.2.1 t2 h_t2; rw [hS_t2] at q; exact q
        refine lv_aload_n hx hb dX5_begins_0 rfl (lv_at hl 0 rfl) ?_
        refine lv_iload_n hx hb dX5_begins_1 rfl (lv_at hl 1 rfl) ?_
        refine lv_iload_n hx hb dX5_begins_2 rfl (lv_at hl 2 rfl) ?_
        have hy_t2 : M.toldMany (Int.toNat (t2 : Int)) = -1 := hz_t2
        refine xv_i (i := 53) (As := [.int (xI z1), .int (xI (t2 : Int))]) (rest := []) ⟨hx, hb, hml, hown, hts⟩ hl.1 (c_X5_barsTwo l D cA n ad en hn hM z1 (t2 : Int) (-1001) (by omega) (by omega) (fun h => absurd h (by omega)) (fun _ => by show -1 ≤ M.toldMany t2 ∧ M.toldMany t2 ≤ 200; omega) (by omega)) k_X5_barsTwo u_ml_RX5_128 hK hN hP (by omega) hM.1 rfl rfl rfl rfl (Nat.le_of_ble_eq_true rfl) ⟨Nat.le_of_ble_eq_true rfl, Nat.le_of_ble_eq_true rfl⟩ ⟨Nat.le_of_ble_eq_true rfl, Nat.le_of_ble_eq_true rfl⟩ dX5_begins_3 ?_
        refine lv_istore (lv' := [(4, .int (xI (-1001))), (0, .ref (ad 53)), (1, .int (xI z1)), (2, .int (xI (t2 : Int))), (3, .int (xI z3))]) hx hb dX5_begins_6 hl (by decide) rfl (fun ls hl => ?_)
        refine lv_iload hx hb dX5_begins_8 (lv_at hl 0 rfl) ?_
        refine x_if_ge (tgt := 16) hx hb dX5_begins_10 (by decide) (by omega) (fun c_10 => absurd c_10 (by omega)) (fun c_10 => ?_)
        refine lv_iload hx hb dX5_begins_13 (lv_at hl 0 rfl) ?_
        exact xe_i hx hb hrt hlocks hP hS ((by unfold am_begins; simp only [Int.toNat_natCast]; rw [sp_if_t (by omega)]; exact ⟨rfl, _, hM, hR, ho⟩)) dX5_begins_15
      · have hT_t2 : M.toldMany t2 = (r_t2.1 : Int) ∧ ∀ k : Nat, k < r_t2.1 → M.told (200 * t2 + k) = r_t2.2 k := by have q := hR.2.1 t2 h_t2; rw [hS_t2] at q; exact q
        have hz_t2 := hT_t2.1
        have hm_t2 := (hW.2.1 t2 r_t2 h_t2 hS_t2).1
        have hfb_t2 := (hW.2.1 t2 r_t2 h_t2 hS_t2).2
        refine lv_aload_n hx hb dX5_begins_0 rfl (lv_at hl 0 rfl) ?_
        refine lv_iload_n hx hb dX5_begins_1 rfl (lv_at hl 1 rfl) ?_
        refine lv_iload_n hx hb dX5_begins_2 rfl (lv_at hl 2 rfl) ?_
        have hy_t2 : M.toldMany (Int.toNat (t2 : Int)) = (r_t2.1 : Int) := hz_t2
        refine xv_i (i := 53) (As := [.int (xI z1), .int (xI (t2 : Int))]) (rest := []) ⟨hx, hb, hml, hown, hts⟩ hl.1 (c_X5_barsTwo l D cA n ad en hn hM z1 (t2 : Int) (-1001) (by omega) (by omega) (fun h => absurd h (by omega)) (fun _ => by show -1 ≤ M.toldMany t2 ∧ M.toldMany t2 ≤ 200; omega) (by omega)) k_X5_barsTwo u_ml_RX5_128 hK hN hP (by omega) hM.1 rfl rfl rfl rfl (Nat.le_of_ble_eq_true rfl) ⟨Nat.le_of_ble_eq_true rfl, Nat.le_of_ble_eq_true rfl⟩ ⟨Nat.le_of_ble_eq_true rfl, Nat.le_of_ble_eq_true rfl⟩ dX5_begins_3 ?_
        refine lv_istore (lv' := [(4, .int (xI (-1001))), (0, .ref (ad 53)), (1, .int (xI z1)), (2, .int (xI (t2 : Int))), (3, .int (xI z3))]) hx hb dX5_begins_6 hl (by decide) rfl (fun ls hl => ?_)
        refine lv_iload hx hb dX5_begins_8 (lv_at hl 0 rfl) ?_
        refine x_if_ge (tgt := 16) hx hb dX5_begins_10 (by decide) (by omega) (fun c_10 => absurd c_10 (by omega)) (fun c_10 => ?_)
        refine lv_iload hx hb dX5_begins_13 (lv_at hl 0 rfl) ?_
        exact xe_i hx hb hrt hlocks hP hS ((by unfold am_begins; simp only [Int.toNat_natCast]; simp only [sp_get_s hS_t2]; rw [sp_if_t (by omega)]; exact ⟨rfl, _, hM, hR, ho⟩)) dX5_begins_15
    · refine lv_aload_n hx hb dX5_begins_0 rfl (lv_at hl 0 rfl) ?_
      refine lv_iload_n hx hb dX5_begins_1 rfl (lv_at hl 1 rfl) ?_
      refine lv_iload_n hx hb dX5_begins_2 rfl (lv_at hl 2 rfl) ?_
      refine xv_i (i := 53) (As := [.int (xI z1), .int (xI z2)]) (rest := []) ⟨hx, hb, hml, hown, hts⟩ hl.1 (c_X5_barsTwo l D cA n ad en hn hM z1 z2 (-1001) (by omega) (by omega) (fun h => absurd h (by omega)) (fun h => absurd h (by omega)) (by omega)) k_X5_barsTwo u_ml_RX5_128 hK hN hP (by omega) hM.1 rfl rfl rfl rfl (Nat.le_of_ble_eq_true rfl) ⟨Nat.le_of_ble_eq_true rfl, Nat.le_of_ble_eq_true rfl⟩ ⟨Nat.le_of_ble_eq_true rfl, Nat.le_of_ble_eq_true rfl⟩ dX5_begins_3 ?_
      refine lv_istore (lv' := [(4, .int (xI (-1001))), (0, .ref (ad 53)), (1, .int (xI z1)), (2, .int (xI z2)), (3, .int (xI z3))]) hx hb dX5_begins_6 hl (by decide) rfl (fun ls hl => ?_)
      refine lv_iload hx hb dX5_begins_8 (lv_at hl 0 rfl) ?_
      refine x_if_ge (tgt := 16) hx hb dX5_begins_10 (by decide) (by omega) (fun c_10 => absurd c_10 (by omega)) (fun c_10 => ?_)
      refine lv_iload hx hb dX5_begins_13 (lv_at hl 0 rfl) ?_
      exact xe_i hx hb hrt hlocks hP hS ((by unfold am_begins; rw [sp_if_t (by omega)]; exact ⟨rfl, _, hM, hR, ho⟩)) dX5_begins_15
