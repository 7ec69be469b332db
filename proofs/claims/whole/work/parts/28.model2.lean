theorem sp_sepok_i (z : Int) : sp_sepok z ↔ (0 ≤ z ∧ z < 256) ∧ ¬ z = 36 ∧ ¬ z = 46 ∧ ¬ z = 63 ∧ ¬ z = 94 ∧ ¬ (40 ≤ z ∧ z ≤ 43) ∧ ¬ (91 ≤ z ∧ z ≤ 92) ∧ ¬ (123 ≤ z ∧ z ≤ 124) := by
  unfold sp_sepok
  constructor
  · rintro ⟨h1, h2⟩
    have e0 := h2 0 (by decide)
    have e1 := h2 1 (by decide)
    have e2 := h2 2 (by decide)
    have e3 := h2 3 (by decide)
    have e4 := h2 4 (by decide)
    have e5 := h2 5 (by decide)
    have e6 := h2 6 (by decide)
    have e7 := h2 7 (by decide)
    have e8 := h2 8 (by decide)
    have e9 := h2 9 (by decide)
    have e10 := h2 10 (by decide)
    have e11 := h2 11 (by decide)
    rw [show sp_nosl 0 = 36 from rfl] at e0
    rw [show sp_nosl 1 = 40 from rfl] at e1
    rw [show sp_nosl 2 = 41 from rfl] at e2
    rw [show sp_nosl 3 = 42 from rfl] at e3
    rw [show sp_nosl 4 = 43 from rfl] at e4
    rw [show sp_nosl 5 = 46 from rfl] at e5
    rw [show sp_nosl 6 = 63 from rfl] at e6
    rw [show sp_nosl 7 = 91 from rfl] at e7
    rw [show sp_nosl 8 = 92 from rfl] at e8
    rw [show sp_nosl 9 = 94 from rfl] at e9
    rw [show sp_nosl 10 = 123 from rfl] at e10
    rw [show sp_nosl 11 = 124 from rfl] at e11
    omega
  · rintro ⟨h1, h2⟩
    refine ⟨h1, fun j hj => ?_⟩
    unfold sp_nosl
    repeat' split
    all_goals omega

set_option maxRecDepth 20000 in
theorem c_X5_isSeparator (l : Launch) (z1 : Int) (hz1 : -2147483648 ≤ z1 ∧ z1 ≤ 2147483647) : Met l yX5_isSeparator (Cond.code yX5_isSeparator cX5_isSeparator 2 (some .boolean) :: xU) (xrm 2 45) (va_Pc [.int (xI z1)] (fun _ => True)) (vp_Si (fun z => z = xb (sp_sepok z1))) 0 0 (fun _ => False) := by
  refine xmet (by decide) (Nat.le_of_ble_eq_true rfl) (fun p e s mm args below meth c ls hx hb hrt hml hown hts hlocks hname hB hl => ?_)
  have hl : lv_has ls 2 [(0, .int (xI z1))] := hl
  refine lv_iload_n hx hb dX5_isSeparator_0 rfl (lv_at hl 0 rfl) ?_
  refine xt_i (As := [.int (xI z1)]) (rest := []) ⟨hx, hb, hml, hown, hts⟩ hl.1 (c_X5_isSign l z1 (by omega)) k_X5_isSign u_ml_RX5_74 rfl rfl (Nat.le_of_ble_eq_true rfl) ⟨Nat.le_of_ble_eq_true rfl, Nat.le_of_ble_eq_true rfl⟩ ⟨Nat.le_of_ble_eq_true rfl, Nat.le_of_ble_eq_true rfl⟩ dX5_isSeparator_1 ?_
  refine x_ifb_eq (tgt := 35) hx hb dX5_isSeparator_4 (by decide)  (fun c_4 => ?_) (fun c_4 => ?_)
  · refine x_iconst hx hb dX5_isSeparator_35 ?_
    refine lv_istore_n (lv' := [(1, .int (xI 0)), (0, .int (xI z1))]) hx hb dX5_isSeparator_36 rfl hl (by decide) rfl (fun ls hl => ?_)
    refine lv_iload_n hx hb dX5_isSeparator_37 rfl (lv_at hl 0 rfl) ?_
    refine x_if_eq (tgt := 87) hx hb dX5_isSeparator_38 (by decide) (by omega) (fun c_38 => ?_) (fun c_38 => absurd c_38 (by omega))
    refine x_iconst hx hb dX5_isSeparator_87 ?_
    exact xr_z hx hb hrt hlocks (xb_0 (fun q => by have := (sp_sepok_i z1).mp q; omega)) dX5_isSeparator_88
  · refine lv_iload_n hx hb dX5_isSeparator_7 rfl (lv_at hl 0 rfl) ?_
    refine x_bipush hx hb dX5_isSeparator_8 (by decide +kernel) ?_
    refine x_icmp_eq (tgt := 35) hx hb dX5_isSeparator_10 (by decide) (by omega) (fun c_10 => ?_) (fun c_10 => ?_)
    · refine x_iconst hx hb dX5_isSeparator_35 ?_
      refine lv_istore_n (lv' := [(1, .int (xI 0)), (0, .int (xI z1))]) hx hb dX5_isSeparator_36 rfl hl (by decide) rfl (fun ls hl => ?_)
      refine lv_iload_n hx hb dX5_isSeparator_37 rfl (lv_at hl 0 rfl) ?_
      refine x_if_eq (tgt := 87) hx hb dX5_isSeparator_38 (by decide) (by omega) (fun c_38 => ?_) (fun c_38 => absurd c_38 (by omega))
      refine x_iconst hx hb dX5_isSeparator_87 ?_
      exact xr_z hx hb hrt hlocks (xb_0 (fun q => by have := (sp_sepok_i z1).mp q; omega)) dX5_isSeparator_88
    · refine lv_iload_n hx hb dX5_isSeparator_13 rfl (lv_at hl 0 rfl) ?_
      refine x_bipush hx hb dX5_isSeparator_14 (by decide +kernel) ?_
      refine x_icmp_eq (tgt := 35) hx hb dX5_isSeparator_16 (by decide) (by omega) (fun c_16 => ?_) (fun c_16 => ?_)
      · refine x_iconst hx hb dX5_isSeparator_35 ?_
        refine lv_istore_n (lv' := [(1, .int (xI 0)), (0, .int (xI z1))]) hx hb dX5_isSeparator_36 rfl hl (by decide) rfl (fun ls hl => ?_)
        refine lv_iload_n hx hb dX5_isSeparator_37 rfl (lv_at hl 0 rfl) ?_
        refine x_if_eq (tgt := 87) hx hb dX5_isSeparator_38 (by decide) (by omega) (fun c_38 => ?_) (fun c_38 => absurd c_38 (by omega))
        refine x_iconst hx hb dX5_isSeparator_87 ?_
        exact xr_z hx hb hrt hlocks (xb_0 (fun q => by have := (sp_sepok_i z1).mp q; omega)) dX5_isSeparator_88
      · refine lv_iload_n hx hb dX5_isSeparator_19 rfl (lv_at hl 0 rfl) ?_
        refine x_bipush hx hb dX5_isSeparator_20 (by decide +kernel) ?_
        refine x_icmp_eq (tgt := 35) hx hb dX5_isSeparator_22 (by decide) (by omega) (fun c_22 => ?_) (fun c_22 => ?_)
        · refine x_iconst hx hb dX5_isSeparator_35 ?_
          refine lv_istore_n (lv' := [(1, .int (xI 0)), (0, .int (xI z1))]) hx hb dX5_isSeparator_36 rfl hl (by decide) rfl (fun ls hl => ?_)
          refine lv_iload_n hx hb dX5_isSeparator_37 rfl (lv_at hl 0 rfl) ?_
          refine x_if_eq (tgt := 87) hx hb dX5_isSeparator_38 (by decide) (by omega) (fun c_38 => ?_) (fun c_38 => absurd c_38 (by omega))
          refine x_iconst hx hb dX5_isSeparator_87 ?_
          exact xr_z hx hb hrt hlocks (xb_0 (fun q => by have := (sp_sepok_i z1).mp q; omega)) dX5_isSeparator_88
        · refine lv_iload_n hx hb dX5_isSeparator_25 rfl (lv_at hl 0 rfl) ?_
          refine x_bipush hx hb dX5_isSeparator_26 (by decide +kernel) ?_
          refine x_icmp_eq (tgt := 35) hx hb dX5_isSeparator_28 (by decide) (by omega) (fun c_28 => ?_) (fun c_28 => ?_)
          · refine x_iconst hx hb dX5_isSeparator_35 ?_
            refine lv_istore_n (lv' := [(1, .int (xI 0)), (0, .int (xI z1))]) hx hb dX5_isSeparator_36 rfl hl (by decide) rfl (fun ls hl => ?_)
            refine lv_iload_n hx hb dX5_isSeparator_37 rfl (lv_at hl 0 rfl) ?_
            refine x_if_eq (tgt := 87) hx hb dX5_isSeparator_38 (by decide) (by omega) (fun c_38 => ?_) (fun c_38 => absurd c_38 (by omega))
            refine x_iconst hx hb dX5_isSeparator_87 ?_
            exact xr_z hx hb hrt hlocks (xb_0 (fun q => by have := (sp_sepok_i z1).mp q; omega)) dX5_isSeparator_88
          · refine x_iconst hx hb dX5_isSeparator_31 ?_
            refine lv_goto (tgt := 36) hx hb dX5_isSeparator_32 (by decide) ?_
            refine lv_istore_n (lv' := [(1, .int (xI 1)), (0, .int (xI z1))]) hx hb dX5_isSeparator_36 rfl hl (by decide) rfl (fun ls hl => ?_)
            refine lv_iload_n hx hb dX5_isSeparator_37 rfl (lv_at hl 0 rfl) ?_
            refine x_if_eq (tgt := 87) hx hb dX5_isSeparator_38 (by decide) (by omega) (fun c_38 => absurd c_38 (by omega)) (fun c_38 => ?_)
            refine lv_iload_n hx hb dX5_isSeparator_41 rfl (lv_at hl 1 rfl) ?_
            refine x_i2l hx hb dX5_isSeparator_42 (by omega) ?_
            refine x_ldc2 hx hb hown (hts _ u_ko_RX5_136) (k := 40) (by decide +kernel) dX5_isSeparator_43 ?_
            refine x_ldc2 hx hb hown (hts _ u_ko_RX5_138) (k := 43) (by decide +kernel) dX5_isSeparator_46 ?_
            refine xt_i (As := [.long (xL z1), .long (xL 40), .long (xL 43)]) (rest := []) ⟨hx, hb, hml, hown, hts⟩ hl.1 (c_X5_in l z1 40 43 (by omega) (by omega) (by omega)) k_X5_in u_ml_RX5_54 rfl rfl (Nat.le_of_ble_eq_true rfl) ⟨Nat.le_of_ble_eq_true rfl, Nat.le_of_ble_eq_true rfl⟩ ⟨Nat.le_of_ble_eq_true rfl, Nat.le_of_ble_eq_true rfl⟩ dX5_isSeparator_49 ?_
            refine x_ifb_ne (tgt := 87) hx hb dX5_isSeparator_52 (by decide)  (fun c_52 => ?_) (fun c_52 => ?_)
            · refine x_iconst hx hb dX5_isSeparator_87 ?_
              exact xr_z hx hb hrt hlocks (xb_0 (fun q => by have := (sp_sepok_i z1).mp q; omega)) dX5_isSeparator_88
            · refine lv_iload_n hx hb dX5_isSeparator_55 rfl (lv_at hl 1 rfl) ?_
              refine x_i2l hx hb dX5_isSeparator_56 (by omega) ?_
              refine x_ldc2 hx hb hown (hts _ u_ko_RX5_140) (k := 91) (by decide +kernel) dX5_isSeparator_57 ?_
              refine x_ldc2 hx hb hown (hts _ u_ko_RX5_142) (k := 92) (by decide +kernel) dX5_isSeparator_60 ?_
              refine xt_i (As := [.long (xL z1), .long (xL 91), .long (xL 92)]) (rest := []) ⟨hx, hb, hml, hown, hts⟩ hl.1 (c_X5_in l z1 91 92 (by omega) (by omega) (by omega)) k_X5_in u_ml_RX5_54 rfl rfl (Nat.le_of_ble_eq_true rfl) ⟨Nat.le_of_ble_eq_true rfl, Nat.le_of_ble_eq_true rfl⟩ ⟨Nat.le_of_ble_eq_true rfl, Nat.le_of_ble_eq_true rfl⟩ dX5_isSeparator_63 ?_
              refine x_ifb_ne (tgt := 87) hx hb dX5_isSeparator_66 (by decide)  (fun c_66 => ?_) (fun c_66 => ?_)
              · refine x_iconst hx hb dX5_isSeparator_87 ?_
                exact xr_z hx hb hrt hlocks (xb_0 (fun q => by have := (sp_sepok_i z1).mp q; omega)) dX5_isSeparator_88
              · refine lv_iload_n hx hb dX5_isSeparator_69 rfl (lv_at hl 1 rfl) ?_
                refine x_i2l hx hb dX5_isSeparator_70 (by omega) ?_
                refine x_ldc2 hx hb hown (hts _ u_ko_RX5_144) (k := 123) (by decide +kernel) dX5_isSeparator_71 ?_
                refine x_ldc2 hx hb hown (hts _ u_ko_RX5_146) (k := 124) (by decide +kernel) dX5_isSeparator_74 ?_
                refine xt_i (As := [.long (xL z1), .long (xL 123), .long (xL 124)]) (rest := []) ⟨hx, hb, hml, hown, hts⟩ hl.1 (c_X5_in l z1 123 124 (by omega) (by omega) (by omega)) k_X5_in u_ml_RX5_54 rfl rfl (Nat.le_of_ble_eq_true rfl) ⟨Nat.le_of_ble_eq_true rfl, Nat.le_of_ble_eq_true rfl⟩ ⟨Nat.le_of_ble_eq_true rfl, Nat.le_of_ble_eq_true rfl⟩ dX5_isSeparator_77 ?_
                refine x_ifb_ne (tgt := 87) hx hb dX5_isSeparator_80 (by decide)  (fun c_80 => ?_) (fun c_80 => ?_)
                · refine x_iconst hx hb dX5_isSeparator_87 ?_
                  exact xr_z hx hb hrt hlocks (xb_0 (fun q => by have := (sp_sepok_i z1).mp q; omega)) dX5_isSeparator_88
                · refine x_iconst hx hb dX5_isSeparator_83 ?_
                  refine lv_goto (tgt := 88) hx hb dX5_isSeparator_84 (by decide) ?_
                  exact xr_z hx hb hrt hlocks (xb_1 ((sp_sepok_i z1).mpr (by omega))) dX5_isSeparator_88

set_option maxRecDepth 20000 in
theorem c_X5_layText_none (l : Launch) (D : va_G) (cA : Nat → ClassId) (n : Nat) (ad : Nat → Nat) (en : Nat → va_E) (sz : Nat) (hn : 68 ≤ n) {M : MO} (hM : MW cA ad en M) (t : Nat) (ht8 : t < 8) (hz : M.toldMany t = -1) : Met l yX5_layText (Cond.code yX5_layText cX5_layText 3 none :: xU) (xrm 0 0) (va_Pc [.ref (ad 53), .int (xI (t : Int))] (xM D cA n ad en sz)) (va_Qv (fun u => ∃ F : Nat → Int, (∀ k : Nat, k < 4 → F k = sp_four k) ∧ MW cA ad u (mO M.built M.builtMany M.told M.toldMany F ((4 : Nat) : Int) M.figures M.partText M.partFrom M.partMany M.parts M.cut M.cutMany M.isCut M.cutGives M.cutAt M.h) ∧ xO 53 68 en u) (xE D n ad) (xA n ad sz)) 0 0 (xA n ad sz) := by
  refine xmet (by decide) (Nat.le_of_ble_eq_true rfl) (fun p e s mm args below meth c ls hx hb hrt hml hown hts hlocks hname hB hl => ?_)
  obtain ⟨⟨hP, hK, hN⟩, hsz, hDt⟩ := hB
  have hD : xD (xA n ad sz) n ad := xD_self hDt sz
  have hA : ∀ q : Nat, s.heap.size ≤ q → xA n ad sz q := fun q h => Or.inr (by rw [← hsz]; exact h)
  have hS : va_S (xA n ad sz) s.heap s.heap [] := va_S.rf
  have hown : s.vm.findClass RX5 = some mm.cls := hown
  have hl : lv_has ls 3 [(0, .ref (ad 53)), (1, .int (xI (t : Int)))] := hl
  have ho : xO 53 68 en en := xO.rf
  refine lv_aload_n hx hb dX5_layText_0 rfl (lv_at hl 0 rfl) ?_
  refine x_get (T := TX5) (N := 17) hx hb hts uX5 hown hK hP (i := 53) (by omega) hM.1 rfl 3 (by decide) u_fl_RX5_19 rfl dX5_layText_1 ?_
  refine lv_iload_n hx hb dX5_layText_4 rfl (lv_at hl 1 rfl) ?_
  refine x_ild hx hb hK hP (i := 57) (by omega) hM.2.2.2.2.1 (x := M.toldMany t) (by omega) (rfl) dX5_layText_5 ?_
  refine x_if_ge (tgt := 47) hx hb dX5_layText_6 (by decide) (by omega) (fun c_6 => absurd c_6 (by omega)) (fun c_6 => ?_)
  refine lv_aload_n hx hb dX5_layText_9 rfl (lv_at hl 0 rfl) ?_
  refine x_get (T := TX5) (N := 17) hx hb hts uX5 hown hK hP (i := 53) (by omega) hM.1 rfl 4 (by decide) u_fl_RX5_22 rfl dX5_layText_10 ?_
  refine x_iconst hx hb dX5_layText_13 ?_
  refine x_bipush hx hb dX5_layText_14 (by decide +kernel) ?_
  refine x_ist hx hb hK hP hD hS (i := 58) (by omega) hM.2.2.2.2.2.1 (by omega) dX5_layText_16 (fun H locs hP hS => ?_)
  obtain ⟨en1, he1⟩ : ∃ z, z = va_up en 58 (.inl (cA 0, 220, .inl (upd (fun k => xI (M.row k)) 0 (xI 110)))) := ⟨_, rfl⟩
  have hP : va_P D vwCl (xw n ad en1) H := by rw [he1]; exact hP
  have hM : MW cA ad en1 (mO M.built M.builtMany M.told M.toldMany (sp_up M.row 0 110) M.rowMany M.figures M.partText M.partFrom M.partMany M.parts M.cut M.cutMany M.isCut M.cutGives M.cutAt M.h) := by rw [he1]; exact hM.u_row 0 110
  have ho : xO 53 68 en en1 := by rw [he1]; exact ho.up (by omega) (by omega)
  refine lv_aload_n hx hb dX5_layText_17 rfl (lv_at hl 0 rfl) ?_
  refine x_get (T := TX5) (N := 17) hx hb hts uX5 hown hK hP (i := 53) (by omega) (show en1 53 = .inr (5, [.ref (ad 54), .ref (ad 55), .ref (ad 56), .ref (ad 57), .ref (ad 58), .int (xI M.rowMany), .ref (ad 59), .ref (ad 60), .ref (ad 61), .ref (ad 62), .int (xI M.parts), .ref (ad 63), .ref (ad 64), .ref (ad 65), .ref (ad 66), .ref (ad 67), .long M.h]) from hM.1) rfl 4 (by decide) u_fl_RX5_22 rfl dX5_layText_18 ?_
  refine x_iconst hx hb dX5_layText_21 ?_
  refine x_bipush hx hb dX5_layText_22 (by decide +kernel) ?_
  refine x_ist hx hb hK hP hD hS (i := 58) (by omega) hM.2.2.2.2.2.1 (by omega) dX5_layText_24 (fun H locs hP hS => ?_)
  obtain ⟨en2, he2⟩ : ∃ z, z = va_up en1 58 (.inl (cA 0, 220, .inl (upd (fun k => xI ((sp_up M.row 0 110) k)) 1 (xI 117)))) := ⟨_, rfl⟩
  have hP : va_P D vwCl (xw n ad en2) H := by rw [he2]; exact hP
  have hM : MW cA ad en2 (mO M.built M.builtMany M.told M.toldMany (sp_up (sp_up M.row 0 110) 1 117) M.rowMany M.figures M.partText M.partFrom M.partMany M.parts M.cut M.cutMany M.isCut M.cutGives M.cutAt M.h) := by rw [he2]; exact hM.u_row 1 117
  have ho : xO 53 68 en en2 := by rw [he2]; exact ho.up (by omega) (by omega)
  refine lv_aload_n hx hb dX5_layText_25 rfl (lv_at hl 0 rfl) ?_
  refine x_get (T := TX5) (N := 17) hx hb hts uX5 hown hK hP (i := 53) (by omega) (show en2 53 = .inr (5, [.ref (ad 54), .ref (ad 55), .ref (ad 56), .ref (ad 57), .ref (ad 58), .int (xI M.rowMany), .ref (ad 59), .ref (ad 60), .ref (ad 61), .ref (ad 62), .int (xI M.parts), .ref (ad 63), .ref (ad 64), .ref (ad 65), .ref (ad 66), .ref (ad 67), .long M.h]) from hM.1) rfl 4 (by decide) u_fl_RX5_22 rfl dX5_layText_26 ?_
  refine x_iconst hx hb dX5_layText_29 ?_
  refine x_bipush hx hb dX5_layText_30 (by decide +kernel) ?_
  refine x_ist hx hb hK hP hD hS (i := 58) (by omega) hM.2.2.2.2.2.1 (by omega) dX5_layText_32 (fun H locs hP hS => ?_)
  obtain ⟨en3, he3⟩ : ∃ z, z = va_up en2 58 (.inl (cA 0, 220, .inl (upd (fun k => xI ((sp_up (sp_up M.row 0 110) 1 117) k)) 2 (xI 108)))) := ⟨_, rfl⟩
  have hP : va_P D vwCl (xw n ad en3) H := by rw [he3]; exact hP
  have hM : MW cA ad en3 (mO M.built M.builtMany M.told M.toldMany (sp_up (sp_up (sp_up M.row 0 110) 1 117) 2 108) M.rowMany M.figures M.partText M.partFrom M.partMany M.parts M.cut M.cutMany M.isCut M.cutGives M.cutAt M.h) := by rw [he3]; exact hM.u_row 2 108
  have ho : xO 53 68 en en3 := by rw [he3]; exact ho.up (by omega) (by omega)
  refine lv_aload_n hx hb dX5_layText_33 rfl (lv_at hl 0 rfl) ?_
  refine x_get (T := TX5) (N := 17) hx hb hts uX5 hown hK hP (i := 53) (by omega) (show en3 53 = .inr (5, [.ref (ad 54), .ref (ad 55), .ref (ad 56), .ref (ad 57), .ref (ad 58), .int (xI M.rowMany), .ref (ad 59), .ref (ad 60), .ref (ad 61), .ref (ad 62), .int (xI M.parts), .ref (ad 63), .ref (ad 64), .ref (ad 65), .ref (ad 66), .ref (ad 67), .long M.h]) from hM.1) rfl 4 (by decide) u_fl_RX5_22 rfl dX5_layText_34 ?_
  refine x_iconst hx hb dX5_layText_37 ?_
  refine x_bipush hx hb dX5_layText_38 (by decide +kernel) ?_
  refine x_ist hx hb hK hP hD hS (i := 58) (by omega) hM.2.2.2.2.2.1 (by omega) dX5_layText_40 (fun H locs hP hS => ?_)
  obtain ⟨en4, he4⟩ : ∃ z, z = va_up en3 58 (.inl (cA 0, 220, .inl (upd (fun k => xI ((sp_up (sp_up (sp_up M.row 0 110) 1 117) 2 108) k)) 3 (xI 108)))) := ⟨_, rfl⟩
  have hP : va_P D vwCl (xw n ad en4) H := by rw [he4]; exact hP
  have hM : MW cA ad en4 (mO M.built M.builtMany M.told M.toldMany (sp_up (sp_up (sp_up (sp_up M.row 0 110) 1 117) 2 108) 3 108) M.rowMany M.figures M.partText M.partFrom M.partMany M.parts M.cut M.cutMany M.isCut M.cutGives M.cutAt M.h) := by rw [he4]; exact hM.u_row 3 108
  have ho : xO 53 68 en en4 := by rw [he4]; exact ho.up (by omega) (by omega)
  refine lv_aload_n hx hb dX5_layText_41 rfl (lv_at hl 0 rfl) ?_
  refine x_iconst hx hb dX5_layText_42 ?_
  refine x_put (T := TX5) (N := 17) (ty := .int) hx hb hts uX5 tyX5 tyX5_ok nmX5 hown hK hP hD hS (i := 53) (by omega) (show en4 53 = .inr (5, [.ref (ad 54), .ref (ad 55), .ref (ad 56), .ref (ad 57), .ref (ad 58), .int (xI M.rowMany), .ref (ad 59), .ref (ad 60), .ref (ad 61), .ref (ad 62), .int (xI M.parts), .ref (ad 63), .ref (ad 64), .ref (ad 65), .ref (ad 66), .ref (ad 67), .long M.h]) from hM.1) rfl 5 (by decide) u_fl_RX5_62 rfl (by decide +kernel) rfl rfl (by show 5 < 17; decide) dX5_layText_43 (fun H locs hP hS => ?_)
  obtain ⟨en5, he5⟩ : ∃ z, z = va_up en4 53 (.inr (5, [.ref (ad 54), .ref (ad 55), .ref (ad 56), .ref (ad 57), .ref (ad 58), .int (xI 4), .ref (ad 59), .ref (ad 60), .ref (ad 61), .ref (ad 62), .int (xI M.parts), .ref (ad 63), .ref (ad 64), .ref (ad 65), .ref (ad 66), .ref (ad 67), .long M.h])) := ⟨_, rfl⟩
  have hP : va_P D vwCl (xw n ad en5) H := by rw [he5]; exact hP
  have hM : MW cA ad en5 (mO M.built M.builtMany M.told M.toldMany (sp_up (sp_up (sp_up (sp_up M.row 0 110) 1 117) 2 108) 3 108) 4 M.figures M.partText M.partFrom M.partMany M.parts M.cut M.cutMany M.isCut M.cutGives M.cutAt M.h) := by rw [he5]; exact hM.s_rowMany 4
  have ho : xO 53 68 en en5 := by rw [he5]; exact ho.up (by omega) (by omega)
  exact xe_v hx hb hrt hlocks hP hS (⟨_, fun k hk => by
    rcases (show k = 0 ∨ k = 1 ∨ k = 2 ∨ k = 3 by omega) with rfl | rfl | rfl | rfl <;> rfl, hM, ho⟩) dX5_layText_46

set_option maxRecDepth 20000 in
theorem c_X5_layText_some (l : Launch) (D : va_G) (cA : Nat → ClassId) (n : Nat) (ad : Nat → Nat) (en : Nat → va_E) (sz : Nat) (hn : 68 ≤ n) {M : MO} (hM : MW cA ad en M) (t : Nat) (ht8 : t < 8) {r : xRow} (hz : M.toldMany t = (r.1 : Int)) (hr2 : r.1 ≤ 200) (hf2 : ∀ k : Nat, k < r.1 → M.told (200 * t + k) = r.2 k) : Met l yX5_layText (Cond.code yX5_layText cX5_layText 3 none :: xU) (xrm 0 0) (va_Pc [.ref (ad 53), .int (xI (t : Int))] (xM D cA n ad en sz)) (va_Qv (fun u => ∃ F : Nat → Int, (∀ k : Nat, k < r.1 → F k = r.2 k) ∧ MW cA ad u (mO M.built M.builtMany M.told M.toldMany F (r.1 : Int) M.figures M.partText M.partFrom M.partMany M.parts M.cut M.cutMany M.isCut M.cutGives M.cutAt M.h) ∧ xO 53 68 en u) (xE D n ad) (xA n ad sz)) 0 0 (xA n ad sz) := by
  refine xmet (by decide) (Nat.le_of_ble_eq_true rfl) (fun p e s mm args below meth c ls hx hb hrt hml hown hts hlocks hname hB hl => ?_)
  obtain ⟨⟨hP, hK, hN⟩, hsz, hDt⟩ := hB
  have hD : xD (xA n ad sz) n ad := xD_self hDt sz
  have hA : ∀ q : Nat, s.heap.size ≤ q → xA n ad sz q := fun q h => Or.inr (by rw [← hsz]; exact h)
  have hS : va_S (xA n ad sz) s.heap s.heap [] := va_S.rf
  have hown : s.vm.findClass RX5 = some mm.cls := hown
  have hl : lv_has ls 3 [(0, .ref (ad 53)), (1, .int (xI (t : Int)))] := hl
  have ho : xO 53 68 en en := xO.rf
  refine lv_aload_n hx hb dX5_layText_0 rfl (lv_at hl 0 rfl) ?_
  refine x_get (T := TX5) (N := 17) hx hb hts uX5 hown hK hP (i := 53) (by omega) hM.1 rfl 3 (by decide) u_fl_RX5_19 rfl dX5_layText_1 ?_
  refine lv_iload_n hx hb dX5_layText_4 rfl (lv_at hl 1 rfl) ?_
  refine x_ild hx hb hK hP (i := 57) (by omega) hM.2.2.2.2.1 (x := M.toldMany t) (by omega) (rfl) dX5_layText_5 ?_
  refine x_if_ge (tgt := 47) hx hb dX5_layText_6 (by decide) (by omega) (fun c_6 => ?_) (fun c_6 => absurd c_6 (by omega))
  refine lv_aload_n hx hb dX5_layText_47 rfl (lv_at hl 0 rfl) ?_
  refine lv_aload_n hx hb dX5_layText_48 rfl (lv_at hl 0 rfl) ?_
  refine x_get (T := TX5) (N := 17) hx hb hts uX5 hown hK hP (i := 53) (by omega) hM.1 rfl 3 (by decide) u_fl_RX5_19 rfl dX5_layText_49 ?_
  refine lv_iload_n hx hb dX5_layText_52 rfl (lv_at hl 1 rfl) ?_
  refine x_ild hx hb hK hP (i := 57) (by omega) hM.2.2.2.2.1 (x := M.toldMany t) (by omega) (rfl) dX5_layText_53 ?_
  refine x_to (((r.1 : Nat) : Int)) (hz) ?_
  refine x_put (T := TX5) (N := 17) (ty := .int) hx hb hts uX5 tyX5 tyX5_ok nmX5 hown hK hP hD hS (i := 53) (by omega) hM.1 rfl 5 (by decide) u_fl_RX5_62 rfl (by decide +kernel) rfl rfl (by show 5 < 17; decide) dX5_layText_54 (fun H locs hP hS => ?_)
  obtain ⟨en1, he1⟩ : ∃ z, z = va_up en 53 (.inr (5, [.ref (ad 54), .ref (ad 55), .ref (ad 56), .ref (ad 57), .ref (ad 58), .int (xI ((r.1 : Nat) : Int)), .ref (ad 59), .ref (ad 60), .ref (ad 61), .ref (ad 62), .int (xI M.parts), .ref (ad 63), .ref (ad 64), .ref (ad 65), .ref (ad 66), .ref (ad 67), .long M.h])) := ⟨_, rfl⟩
  have hP : va_P D vwCl (xw n ad en1) H := by rw [he1]; exact hP
  have hM : MW cA ad en1 (mO M.built M.builtMany M.told M.toldMany M.row ((r.1 : Nat) : Int) M.figures M.partText M.partFrom M.partMany M.parts M.cut M.cutMany M.isCut M.cutGives M.cutAt M.h) := by rw [he1]; exact hM.s_rowMany ((r.1 : Nat) : Int)
  have ho : xO 53 68 en en1 := by rw [he1]; exact ho.up (by omega) (by omega)
  refine x_iconst hx hb dX5_layText_57 ?_
  refine lv_istore_n (lv' := [(2, .int (xI 0)), (0, .ref (ad 53)), (1, .int (xI (t : Int)))]) hx hb dX5_layText_58 rfl hl (by decide) rfl (fun ls hl => ?_)
  have L59 : ∀ (nn : Nat) (K : Nat) (F : Nat → Int) (ew59 : Nat → va_E) (H : Heap) (locs : List Loc), (K ≤ r.1) → (∀ k : Nat, k < K → F k = r.2 k) → (r.1 - K) < nn → (MW cA ad ew59 (mO M.built M.builtMany M.told M.toldMany F (r.1 : Int) M.figures M.partText M.partFrom M.partMany M.parts M.cut M.cutMany M.isCut M.cutGives M.cutAt M.h)) → (xO 53 68 en ew59) → va_P D vwCl (xw n ad ew59) H → va_S (xA n ad sz) s.heap H locs → ∀ ls : Array Slot, lv_has ls 3 [(0, .ref (ad 53)), (1, .int (xI (t : Int))), (2, .int (xI (K : Int)))] → W p l e (xrm 0 0) s mm args below meth c H locs 0 0 (MQ below (va_Qv (fun u => ∃ F : Nat → Int, (∀ k : Nat, k < r.1 → F k = r.2 k) ∧ MW cA ad u (mO M.built M.builtMany M.told M.toldMany F (r.1 : Int) M.figures M.partText M.partFrom M.partMany M.parts M.cut M.cutMany M.isCut M.cutGives M.cutAt M.h) ∧ xO 53 68 en u) (xE D n ad) (xA n ad sz)) args s 0 0 (xA n ad sz)) (F0 mm 59 ls []) := by
    intro nn
    induction nn with
    | zero =>
      intro K F ew59 H locs hk9 hF hmm hM ho hP hS ls hl
      exact absurd hmm (Nat.not_lt_zero _)
    | succ nn ih =>
      intro K F ew59 H locs hk9 hF hmm hM ho hP hS ls hl
      refine lv_iload_n hx hb dX5_layText_59 rfl (lv_at hl 2 rfl) ?_
      refine lv_aload_n hx hb dX5_layText_60 rfl (lv_at hl 0 rfl) ?_
      refine x_get (T := TX5) (N := 17) hx hb hts uX5 hown hK hP (i := 53) (by omega) (show ew59 53 = .inr (5, [.ref (ad 54), .ref (ad 55), .ref (ad 56), .ref (ad 57), .ref (ad 58), .int (xI (r.1 : Int)), .ref (ad 59), .ref (ad 60), .ref (ad 61), .ref (ad 62), .int (xI M.parts), .ref (ad 63), .ref (ad 64), .ref (ad 65), .ref (ad 66), .ref (ad 67), .long M.h]) from hM.1) rfl 5 (by decide) u_fl_RX5_62 rfl dX5_layText_61 ?_
      refine x_icmp_ge (tgt := 91) hx hb dX5_layText_64 (by decide) (by omega) (fun c_64 => ?_) (fun c_64 => ?_)
      · exact xe_v hx hb hrt hlocks hP hS (⟨F, fun k hk => hF k (by omega), hM, ho⟩) dX5_layText_91
      · refine lv_aload_n hx hb dX5_layText_67 rfl (lv_at hl 0 rfl) ?_
        refine x_get (T := TX5) (N := 17) hx hb hts uX5 hown hK hP (i := 53) (by omega) (show ew59 53 = .inr (5, [.ref (ad 54), .ref (ad 55), .ref (ad 56), .ref (ad 57), .ref (ad 58), .int (xI (r.1 : Int)), .ref (ad 59), .ref (ad 60), .ref (ad 61), .ref (ad 62), .int (xI M.parts), .ref (ad 63), .ref (ad 64), .ref (ad 65), .ref (ad 66), .ref (ad 67), .long M.h]) from hM.1) rfl 4 (by decide) u_fl_RX5_22 rfl dX5_layText_68 ?_
        refine lv_iload_n hx hb dX5_layText_71 rfl (lv_at hl 2 rfl) ?_
        refine lv_aload_n hx hb dX5_layText_72 rfl (lv_at hl 0 rfl) ?_
        refine x_get (T := TX5) (N := 17) hx hb hts uX5 hown hK hP (i := 53) (by omega) (show ew59 53 = .inr (5, [.ref (ad 54), .ref (ad 55), .ref (ad 56), .ref (ad 57), .ref (ad 58), .int (xI (r.1 : Int)), .ref (ad 59), .ref (ad 60), .ref (ad 61), .ref (ad 62), .int (xI M.parts), .ref (ad 63), .ref (ad 64), .ref (ad 65), .ref (ad 66), .ref (ad 67), .long M.h]) from hM.1) rfl 2 (by decide) u_fl_RX5_16 rfl dX5_layText_73 ?_
        refine x_sipush hx hb dX5_layText_76 (by decide +kernel) ?_
        refine lv_iload_n hx hb dX5_layText_79 rfl (lv_at hl 1 rfl) ?_
        refine x_imul hx hb dX5_layText_80 ?_
        refine lv_iload_n hx hb dX5_layText_81 rfl (lv_at hl 2 rfl) ?_
        refine x_iadd hx hb dX5_layText_82 ?_
        refine x_ild hx hb hK hP (i := 56) (by omega) hM.2.2.2.1 (x := M.told ((200 * t) + K)) (by omega) (congrArg (fun q => xI (M.told q)) (show Int.toNat ((200 * (t : Int)) + (K : Int)) = (200 * t) + K by omega)) dX5_layText_83 ?_
        refine x_to (r.2 K) (hf2 K (by omega)) ?_
        refine x_ist hx hb hK hP hD hS (i := 58) (by omega) hM.2.2.2.2.2.1 (by omega) dX5_layText_84 (fun H locs hP hS => ?_)
        obtain ⟨en2, he2⟩ : ∃ z, z = va_up ew59 58 (.inl (cA 0, 220, .inl (upd (fun k => xI (F k)) K (xI (r.2 K))))) := ⟨_, rfl⟩
        have hP : va_P D vwCl (xw n ad en2) H := by rw [he2]; exact hP
        have hM : MW cA ad en2 (mO M.built M.builtMany M.told M.toldMany (sp_up F K (r.2 K)) (r.1 : Int) M.figures M.partText M.partFrom M.partMany M.parts M.cut M.cutMany M.isCut M.cutGives M.cutAt M.h) := by rw [he2]; exact hM.u_row K (r.2 K)
        have ho : xO 53 68 en en2 := by rw [he2]; exact ho.up (by omega) (by omega)
        refine x_iinc (lv' := [(2, .int (xI ((K : Int) + 1))), (0, .ref (ad 53)), (1, .int (xI (t : Int)))]) (k := 2) hx hb dX5_layText_85 hl rfl (by decide) rfl (fun ls hl => ?_)
        refine lv_goto (tgt := 59) hx hb dX5_layText_88 (by decide) ?_
        exact ih (K + 1) _ en2 _ _ (by omega) (fun k hk => by
      by_cases q : k = K
      · rw [q, sp_up_s]
      · rw [sp_up_n _ _ (by omega)]; exact hF k (by omega)) (by omega) hM ho hP hS ls (lv_sub hl [1, 2, 0] rfl)
  exact L59 _ 0 M.row en1 _ _ (Nat.zero_le _) (fun k hk => absurd hk (Nat.not_lt_zero _)) (Nat.lt_succ_self _) hM ho hP hS ls (lv_sub hl [1, 2, 0] rfl)

set_option maxRecDepth 20000 in
theorem c_X5_clip (l : Launch) (D : va_G) (cA : Nat → ClassId) (n : Nat) (ad : Nat → Nat) (en : Nat → va_E) (sz : Nat) (hn : 68 ≤ n) {M : MO} (hM : MW cA ad en M) (a b : Nat) (hab : a ≤ b) (hb9 : b ≤ 220) : Met l yX5_clip (Cond.code yX5_clip cX5_clip 4 none :: xU) (xrm 0 0) (va_Pc [.ref (ad 53), .int (xI (a : Int)), .int (xI (b : Int))] (xM D cA n ad en sz)) (va_Qv (fun u => ∃ F : Nat → Int, (∀ k : Nat, k < b - a → F k = M.row (a + k)) ∧ MW cA ad u (mO M.built M.builtMany M.told M.toldMany F ((b : Int) - (a : Int)) M.figures M.partText M.partFrom M.partMany M.parts M.cut M.cutMany M.isCut M.cutGives M.cutAt M.h) ∧ xO 53 68 en u) (xE D n ad) (xA n ad sz)) 0 0 (xA n ad sz) := by
  refine xmet (by decide) (Nat.le_of_ble_eq_true rfl) (fun p e s mm args below meth c ls hx hb hrt hml hown hts hlocks hname hB hl => ?_)
  obtain ⟨⟨hP, hK, hN⟩, hsz, hDt⟩ := hB
  have hD : xD (xA n ad sz) n ad := xD_self hDt sz
  have hA : ∀ q : Nat, s.heap.size ≤ q → xA n ad sz q := fun q h => Or.inr (by rw [← hsz]; exact h)
  have hS : va_S (xA n ad sz) s.heap s.heap [] := va_S.rf
  have hown : s.vm.findClass RX5 = some mm.cls := hown
  have hl : lv_has ls 4 [(0, .ref (ad 53)), (1, .int (xI (a : Int))), (2, .int (xI (b : Int)))] := hl
  have ho : xO 53 68 en en := xO.rf
  refine lv_iload_n hx hb dX5_clip_0 rfl (lv_at hl 1 rfl) ?_
  refine lv_istore_n (lv' := [(3, .int (xI (a : Int))), (0, .ref (ad 53)), (1, .int (xI (a : Int))), (2, .int (xI (b : Int)))]) hx hb dX5_clip_1 rfl hl (by decide) rfl (fun ls hl => ?_)
  have L2 : ∀ (nn : Nat) (K : Nat) (F : Nat → Int) (ew2 : Nat → va_E) (H : Heap) (locs : List Loc), (a ≤ K ∧ K ≤ b) → (∀ k : Nat, k < K - a → F k = M.row (a + k)) → (∀ k : Nat, K - a ≤ k → F k = M.row k) → (b - K) < nn → (MW cA ad ew2 (mO M.built M.builtMany M.told M.toldMany F M.rowMany M.figures M.partText M.partFrom M.partMany M.parts M.cut M.cutMany M.isCut M.cutGives M.cutAt M.h)) → (xO 53 68 en ew2) → va_P D vwCl (xw n ad ew2) H → va_S (xA n ad sz) s.heap H locs → ∀ ls : Array Slot, lv_has ls 4 [(0, .ref (ad 53)), (1, .int (xI (a : Int))), (2, .int (xI (b : Int))), (3, .int (xI (K : Int)))] → W p l e (xrm 0 0) s mm args below meth c H locs 0 0 (MQ below (va_Qv (fun u => ∃ F : Nat → Int, (∀ k : Nat, k < b - a → F k = M.row (a + k)) ∧ MW cA ad u (mO M.built M.builtMany M.told M.toldMany F ((b : Int) - (a : Int)) M.figures M.partText M.partFrom M.partMany M.parts M.cut M.cutMany M.isCut M.cutGives M.cutAt M.h) ∧ xO 53 68 en u) (xE D n ad) (xA n ad sz)) args s 0 0 (xA n ad sz)) (F0 mm 2 ls []) := by
    intro nn
    induction nn with
    | zero =>
      intro K F ew2 H locs hk9 hF hG hmm hM ho hP hS ls hl
      exact absurd hmm (Nat.not_lt_zero _)
    | succ nn ih =>
      intro K F ew2 H locs hk9 hF hG hmm hM ho hP hS ls hl
      refine lv_iload_n hx hb dX5_clip_2 rfl (lv_at hl 3 rfl) ?_
      refine lv_iload_n hx hb dX5_clip_3 rfl (lv_at hl 2 rfl) ?_
      refine x_icmp_ge (tgt := 27) hx hb dX5_clip_4 (by decide) (by omega) (fun c_4 => ?_) (fun c_4 => ?_)
      · refine lv_aload_n hx hb dX5_clip_27 rfl (lv_at hl 0 rfl) ?_
        refine lv_iload_n hx hb dX5_clip_28 rfl (lv_at hl 2 rfl) ?_
        refine lv_iload_n hx hb dX5_clip_29 rfl (lv_at hl 1 rfl) ?_
        refine x_isub hx hb dX5_clip_30 ?_
        refine x_put (T := TX5) (N := 17) (ty := .int) hx hb hts uX5 tyX5 tyX5_ok nmX5 hown hK hP hD hS (i := 53) (by omega) (show ew2 53 = .inr (5, [.ref (ad 54), .ref (ad 55), .ref (ad 56), .ref (ad 57), .ref (ad 58), .int (xI M.rowMany), .ref (ad 59), .ref (ad 60), .ref (ad 61), .ref (ad 62), .int (xI M.parts), .ref (ad 63), .ref (ad 64), .ref (ad 65), .ref (ad 66), .ref (ad 67), .long M.h]) from hM.1) rfl 5 (by decide) u_fl_RX5_62 rfl (by decide +kernel) rfl rfl (by show 5 < 17; decide) dX5_clip_31 (fun H locs hP hS => ?_)
        obtain ⟨en1, he1⟩ : ∃ z, z = va_up ew2 53 (.inr (5, [.ref (ad 54), .ref (ad 55), .ref (ad 56), .ref (ad 57), .ref (ad 58), .int (xI ((b : Int) - (a : Int))), .ref (ad 59), .ref (ad 60), .ref (ad 61), .ref (ad 62), .int (xI M.parts), .ref (ad 63), .ref (ad 64), .ref (ad 65), .ref (ad 66), .ref (ad 67), .long M.h])) := ⟨_, rfl⟩
        have hP : va_P D vwCl (xw n ad en1) H := by rw [he1]; exact hP
        have hM : MW cA ad en1 (mO M.built M.builtMany M.told M.toldMany F ((b : Int) - (a : Int)) M.figures M.partText M.partFrom M.partMany M.parts M.cut M.cutMany M.isCut M.cutGives M.cutAt M.h) := by rw [he1]; exact hM.s_rowMany ((b : Int) - (a : Int))
        have ho : xO 53 68 en en1 := by rw [he1]; exact ho.up (by omega) (by omega)
        exact xe_v hx hb hrt hlocks hP hS (⟨F, fun k hk => hF k (by omega), hM, ho⟩) dX5_clip_34
      · refine lv_aload_n hx hb dX5_clip_7 rfl (lv_at hl 0 rfl) ?_
        refine x_get (T := TX5) (N := 17) hx hb hts uX5 hown hK hP (i := 53) (by omega) (show ew2 53 = .inr (5, [.ref (ad 54), .ref (ad 55), .ref (ad 56), .ref (ad 57), .ref (ad 58), .int (xI M.rowMany), .ref (ad 59), .ref (ad 60), .ref (ad 61), .ref (ad 62), .int (xI M.parts), .ref (ad 63), .ref (ad 64), .ref (ad 65), .ref (ad 66), .ref (ad 67), .long M.h]) from hM.1) rfl 4 (by decide) u_fl_RX5_22 rfl dX5_clip_8 ?_
        refine lv_iload_n hx hb dX5_clip_11 rfl (lv_at hl 3 rfl) ?_
        refine lv_iload_n hx hb dX5_clip_12 rfl (lv_at hl 1 rfl) ?_
        refine x_isub hx hb dX5_clip_13 ?_
        refine lv_aload_n hx hb dX5_clip_14 rfl (lv_at hl 0 rfl) ?_
        refine x_get (T := TX5) (N := 17) hx hb hts uX5 hown hK hP (i := 53) (by omega) (show ew2 53 = .inr (5, [.ref (ad 54), .ref (ad 55), .ref (ad 56), .ref (ad 57), .ref (ad 58), .int (xI M.rowMany), .ref (ad 59), .ref (ad 60), .ref (ad 61), .ref (ad 62), .int (xI M.parts), .ref (ad 63), .ref (ad 64), .ref (ad 65), .ref (ad 66), .ref (ad 67), .long M.h]) from hM.1) rfl 4 (by decide) u_fl_RX5_22 rfl dX5_clip_15 ?_
        refine lv_iload_n hx hb dX5_clip_18 rfl (lv_at hl 3 rfl) ?_
        refine x_ild hx hb hK hP (i := 58) (by omega) hM.2.2.2.2.2.1 (x := F K) (by omega) (rfl) dX5_clip_19 ?_
        refine x_ist hx hb hK hP hD hS (i := 58) (by omega) hM.2.2.2.2.2.1 (by omega) dX5_clip_20 (fun H locs hP hS => ?_)
        obtain ⟨en2, he2⟩ : ∃ z, z = va_up ew2 58 (.inl (cA 0, 220, .inl (upd (fun k => xI (F k)) (Int.toNat ((K : Int) - (a : Int))) (xI (F K))))) := ⟨_, rfl⟩
        have hP : va_P D vwCl (xw n ad en2) H := by rw [he2]; exact hP
        have hM : MW cA ad en2 (mO M.built M.builtMany M.told M.toldMany (sp_up F (Int.toNat ((K : Int) - (a : Int))) (F K)) M.rowMany M.figures M.partText M.partFrom M.partMany M.parts M.cut M.cutMany M.isCut M.cutGives M.cutAt M.h) := by rw [he2]; exact hM.u_row (Int.toNat ((K : Int) - (a : Int))) (F K)
        have ho : xO 53 68 en en2 := by rw [he2]; exact ho.up (by omega) (by omega)
        refine x_iinc (lv' := [(3, .int (xI ((K : Int) + 1))), (0, .ref (ad 53)), (1, .int (xI (a : Int))), (2, .int (xI (b : Int)))]) (k := 3) hx hb dX5_clip_21 hl rfl (by decide) rfl (fun ls hl => ?_)
        refine lv_goto (tgt := 2) hx hb dX5_clip_24 (by decide) ?_
        exact ih (K + 1) _ en2 _ _ (by omega) (fun k hk => by
      by_cases q : k = K - a
      · rw [show Int.toNat ((K : Int) - (a : Int)) = k by omega, sp_up_s, hG K (by omega)]; exact congrArg M.row (by omega)
      · rw [sp_up_n _ _ (by omega)]; exact hF k (by omega)) (fun k hk => by
      rw [sp_up_n _ _ (by omega)]; exact hG k (by omega)) (by omega) hM ho hP hS ls (lv_sub hl [1, 2, 3, 0] rfl)
  exact L2 _ a M.row en _ _ (by omega) (fun k hk => absurd hk (by omega)) (fun k hk => rfl) (Nat.lt_succ_self _) hM ho hP hS ls (lv_sub hl [1, 2, 3, 0] rfl)

set_option maxRecDepth 20000 in
theorem c_X5_laySign (l : Launch) (D : va_G) (cA : Nat → ClassId) (n : Nat) (ad : Nat → Nat) (en : Nat → va_E) (sz : Nat) (hn : 68 ≤ n) {M : MO} (hM : MW cA ad en M) (z1 : Int) : Met l yX5_laySign (Cond.code yX5_laySign cX5_laySign 2 none :: xU) (xrm 0 0) (va_Pc [.ref (ad 53), .int (xI z1)] (xM D cA n ad en sz)) (va_Qv (fun u => MW cA ad u (mO M.built M.builtMany M.told M.toldMany (sp_up M.row 0 z1) 1 M.figures M.partText M.partFrom M.partMany M.parts M.cut M.cutMany M.isCut M.cutGives M.cutAt M.h) ∧ xO 53 68 en u) (xE D n ad) (xA n ad sz)) 0 0 (xA n ad sz) := by
  refine xmet (by decide) (Nat.le_of_ble_eq_true rfl) (fun p e s mm args below meth c ls hx hb hrt hml hown hts hlocks hname hB hl => ?_)
  obtain ⟨⟨hP, hK, hN⟩, hsz, hDt⟩ := hB
  have hD : xD (xA n ad sz) n ad := xD_self hDt sz
  have hA : ∀ q : Nat, s.heap.size ≤ q → xA n ad sz q := fun q h => Or.inr (by rw [← hsz]; exact h)
  have hS : va_S (xA n ad sz) s.heap s.heap [] := va_S.rf
  have hown : s.vm.findClass RX5 = some mm.cls := hown
  have hl : lv_has ls 2 [(0, .ref (ad 53)), (1, .int (xI z1))] := hl
  have ho : xO 53 68 en en := xO.rf
  refine lv_aload_n hx hb dX5_laySign_0 rfl (lv_at hl 0 rfl) ?_
  refine x_get (T := TX5) (N := 17) hx hb hts uX5 hown hK hP (i := 53) (by omega) hM.1 rfl 4 (by decide) u_fl_RX5_22 rfl dX5_laySign_1 ?_
  refine x_iconst hx hb dX5_laySign_4 ?_
  refine lv_iload_n hx hb dX5_laySign_5 rfl (lv_at hl 1 rfl) ?_
  refine x_ist hx hb hK hP hD hS (i := 58) (by omega) hM.2.2.2.2.2.1 (by omega) dX5_laySign_6 (fun H locs hP hS => ?_)
  obtain ⟨en1, he1⟩ : ∃ z, z = va_up en 58 (.inl (cA 0, 220, .inl (upd (fun k => xI (M.row k)) 0 (xI z1)))) := ⟨_, rfl⟩
  have hP : va_P D vwCl (xw n ad en1) H := by rw [he1]; exact hP
  have hM : MW cA ad en1 (mO M.built M.builtMany M.told M.toldMany (sp_up M.row 0 z1) M.rowMany M.figures M.partText M.partFrom M.partMany M.parts M.cut M.cutMany M.isCut M.cutGives M.cutAt M.h) := by rw [he1]; exact hM.u_row 0 z1
  have ho : xO 53 68 en en1 := by rw [he1]; exact ho.up (by omega) (by omega)
  refine lv_aload_n hx hb dX5_laySign_7 rfl (lv_at hl 0 rfl) ?_
  refine x_iconst hx hb dX5_laySign_8 ?_
  refine x_put (T := TX5) (N := 17) (ty := .int) hx hb hts uX5 tyX5 tyX5_ok nmX5 hown hK hP hD hS (i := 53) (by omega) (show en1 53 = .inr (5, [.ref (ad 54), .ref (ad 55), .ref (ad 56), .ref (ad 57), .ref (ad 58), .int (xI M.rowMany), .ref (ad 59), .ref (ad 60), .ref (ad 61), .ref (ad 62), .int (xI M.parts), .ref (ad 63), .ref (ad 64), .ref (ad 65), .ref (ad 66), .ref (ad 67), .long M.h]) from hM.1) rfl 5 (by decide) u_fl_RX5_62 rfl (by decide +kernel) rfl rfl (by show 5 < 17; decide) dX5_laySign_9 (fun H locs hP hS => ?_)
  obtain ⟨en2, he2⟩ : ∃ z, z = va_up en1 53 (.inr (5, [.ref (ad 54), .ref (ad 55), .ref (ad 56), .ref (ad 57), .ref (ad 58), .int (xI 1), .ref (ad 59), .ref (ad 60), .ref (ad 61), .ref (ad 62), .int (xI M.parts), .ref (ad 63), .ref (ad 64), .ref (ad 65), .ref (ad 66), .ref (ad 67), .long M.h])) := ⟨_, rfl⟩
  have hP : va_P D vwCl (xw n ad en2) H := by rw [he2]; exact hP
  have hM : MW cA ad en2 (mO M.built M.builtMany M.told M.toldMany (sp_up M.row 0 z1) 1 M.figures M.partText M.partFrom M.partMany M.parts M.cut M.cutMany M.isCut M.cutGives M.cutAt M.h) := by rw [he2]; exact hM.s_rowMany 1
  have ho : xO 53 68 en en2 := by rw [he2]; exact ho.up (by omega) (by omega)
  exact xe_v hx hb hrt hlocks hP hS (⟨hM, ho⟩) dX5_laySign_12

set_option maxRecDepth 20000 in
theorem c_X5_become (l : Launch) (D : va_G) (cA : Nat → ClassId) (n : Nat) (ad : Nat → Nat) (en : Nat → va_E) (sz : Nat) (hn : 68 ≤ n) {M : MO} (hM : MW cA ad en M) (t : Nat) (ht8 : t < 8) (k0 : Nat) (hk0 : M.rowMany = (k0 : Int)) (hk2 : k0 ≤ 200) : Met l yX5_become (Cond.code yX5_become cX5_become 3 (some .int) :: xU) (xrm 0 0) (va_Pc [.ref (ad 53), .int (xI (t : Int))] (xM D cA n ad en sz)) (va_Qi (fun r u => r = xI M.rowMany ∧ ∃ F : Nat → Int, (∀ k : Nat, k < k0 → F (200 * t + k) = M.row k) ∧ (∀ j : Nat, j < 200 * t ∨ 200 * t + 200 ≤ j → F j = M.told j) ∧ MW cA ad u (mO M.built M.builtMany F (sp_up M.toldMany t M.rowMany) M.row M.rowMany M.figures M.partText M.partFrom M.partMany M.parts M.cut M.cutMany M.isCut M.cutGives M.cutAt M.h) ∧ xO 53 68 en u) (xE D n ad) (xA n ad sz)) 0 0 (xA n ad sz) := by
  refine xmet (by decide) (Nat.le_of_ble_eq_true rfl) (fun p e s mm args below meth c ls hx hb hrt hml hown hts hlocks hname hB hl => ?_)
  obtain ⟨⟨hP, hK, hN⟩, hsz, hDt⟩ := hB
  have hD : xD (xA n ad sz) n ad := xD_self hDt sz
  have hA : ∀ q : Nat, s.heap.size ≤ q → xA n ad sz q := fun q h => Or.inr (by rw [← hsz]; exact h)
  have hS : va_S (xA n ad sz) s.heap s.heap [] := va_S.rf
  have hown : s.vm.findClass RX5 = some mm.cls := hown
  have hl : lv_has ls 3 [(0, .ref (ad 53)), (1, .int (xI (t : Int)))] := hl
  have ho : xO 53 68 en en := xO.rf
  refine lv_aload_n hx hb dX5_become_0 rfl (lv_at hl 0 rfl) ?_
  refine x_get (T := TX5) (N := 17) hx hb hts uX5 hown hK hP (i := 53) (by omega) hM.1 rfl 3 (by decide) u_fl_RX5_19 rfl dX5_become_1 ?_
  refine lv_iload_n hx hb dX5_become_4 rfl (lv_at hl 1 rfl) ?_
  refine lv_aload_n hx hb dX5_become_5 rfl (lv_at hl 0 rfl) ?_
  refine x_get (T := TX5) (N := 17) hx hb hts uX5 hown hK hP (i := 53) (by omega) hM.1 rfl 5 (by decide) u_fl_RX5_62 rfl dX5_become_6 ?_
  refine x_ist hx hb hK hP hD hS (i := 57) (by omega) hM.2.2.2.2.1 (by omega) dX5_become_9 (fun H locs hP hS => ?_)
  obtain ⟨en1, he1⟩ : ∃ z, z = va_up en 57 (.inl (cA 0, 8, .inl (upd (fun k => xI (M.toldMany k)) t (xI M.rowMany)))) := ⟨_, rfl⟩
  have hP : va_P D vwCl (xw n ad en1) H := by rw [he1]; exact hP
  have hM : MW cA ad en1 (mO M.built M.builtMany M.told (sp_up M.toldMany t M.rowMany) M.row M.rowMany M.figures M.partText M.partFrom M.partMany M.parts M.cut M.cutMany M.isCut M.cutGives M.cutAt M.h) := by rw [he1]; exact hM.u_toldMany t M.rowMany
  have ho : xO 53 68 en en1 := by rw [he1]; exact ho.up (by omega) (by omega)
  refine x_iconst hx hb dX5_become_10 ?_
  refine lv_istore_n (lv' := [(2, .int (xI 0)), (0, .ref (ad 53)), (1, .int (xI (t : Int)))]) hx hb dX5_become_11 rfl hl (by decide) rfl (fun ls hl => ?_)
  have L12 : ∀ (nn : Nat) (K : Nat) (F : Nat → Int) (ew12 : Nat → va_E) (H : Heap) (locs : List Loc), (K ≤ k0) → (∀ k : Nat, k < K → F (200 * t + k) = M.row k) → (∀ j : Nat, j < 200 * t ∨ 200 * t + 200 ≤ j → F j = M.told j) → (k0 - K) < nn → (MW cA ad ew12 (mO M.built M.builtMany F (sp_up M.toldMany t M.rowMany) M.row M.rowMany M.figures M.partText M.partFrom M.partMany M.parts M.cut M.cutMany M.isCut M.cutGives M.cutAt M.h)) → (xO 53 68 en ew12) → va_P D vwCl (xw n ad ew12) H → va_S (xA n ad sz) s.heap H locs → ∀ ls : Array Slot, lv_has ls 3 [(0, .ref (ad 53)), (1, .int (xI (t : Int))), (2, .int (xI (K : Int)))] → W p l e (xrm 0 0) s mm args below meth c H locs 0 0 (MQ below (va_Qi (fun r u => r = xI M.rowMany ∧ ∃ F : Nat → Int, (∀ k : Nat, k < k0 → F (200 * t + k) = M.row k) ∧ (∀ j : Nat, j < 200 * t ∨ 200 * t + 200 ≤ j → F j = M.told j) ∧ MW cA ad u (mO M.built M.builtMany F (sp_up M.toldMany t M.rowMany) M.row M.rowMany M.figures M.partText M.partFrom M.partMany M.parts M.cut M.cutMany M.isCut M.cutGives M.cutAt M.h) ∧ xO 53 68 en u) (xE D n ad) (xA n ad sz)) args s 0 0 (xA n ad sz)) (F0 mm 12 ls []) := by
    intro nn
    induction nn with
    | zero =>
      intro K F ew12 H locs hk9 hF hG hmm hM ho hP hS ls hl
      exact absurd hmm (Nat.not_lt_zero _)
    | succ nn ih =>
      intro K F ew12 H locs hk9 hF hG hmm hM ho hP hS ls hl
      refine lv_iload_n hx hb dX5_become_12 rfl (lv_at hl 2 rfl) ?_
      refine lv_aload_n hx hb dX5_become_13 rfl (lv_at hl 0 rfl) ?_
      refine x_get (T := TX5) (N := 17) hx hb hts uX5 hown hK hP (i := 53) (by omega) (show ew12 53 = .inr (5, [.ref (ad 54), .ref (ad 55), .ref (ad 56), .ref (ad 57), .ref (ad 58), .int (xI M.rowMany), .ref (ad 59), .ref (ad 60), .ref (ad 61), .ref (ad 62), .int (xI M.parts), .ref (ad 63), .ref (ad 64), .ref (ad 65), .ref (ad 66), .ref (ad 67), .long M.h]) from hM.1) rfl 5 (by decide) u_fl_RX5_62 rfl dX5_become_14 ?_
      refine x_icmp_ge (tgt := 44) hx hb dX5_become_17 (by decide) (by omega) (fun c_17 => ?_) (fun c_17 => ?_)
      · refine lv_aload_n hx hb dX5_become_44 rfl (lv_at hl 0 rfl) ?_
        refine x_get (T := TX5) (N := 17) hx hb hts uX5 hown hK hP (i := 53) (by omega) (show ew12 53 = .inr (5, [.ref (ad 54), .ref (ad 55), .ref (ad 56), .ref (ad 57), .ref (ad 58), .int (xI M.rowMany), .ref (ad 59), .ref (ad 60), .ref (ad 61), .ref (ad 62), .int (xI M.parts), .ref (ad 63), .ref (ad 64), .ref (ad 65), .ref (ad 66), .ref (ad 67), .long M.h]) from hM.1) rfl 5 (by decide) u_fl_RX5_62 rfl dX5_become_45 ?_
        exact xe_i hx hb hrt hlocks hP hS (⟨rfl, F, fun k hk => hF k (by omega), hG, hM, ho⟩) dX5_become_48
      · refine lv_aload_n hx hb dX5_become_20 rfl (lv_at hl 0 rfl) ?_
        refine x_get (T := TX5) (N := 17) hx hb hts uX5 hown hK hP (i := 53) (by omega) (show ew12 53 = .inr (5, [.ref (ad 54), .ref (ad 55), .ref (ad 56), .ref (ad 57), .ref (ad 58), .int (xI M.rowMany), .ref (ad 59), .ref (ad 60), .ref (ad 61), .ref (ad 62), .int (xI M.parts), .ref (ad 63), .ref (ad 64), .ref (ad 65), .ref (ad 66), .ref (ad 67), .long M.h]) from hM.1) rfl 2 (by decide) u_fl_RX5_16 rfl dX5_become_21 ?_
        refine x_sipush hx hb dX5_become_24 (by decide +kernel) ?_
        refine lv_iload_n hx hb dX5_become_27 rfl (lv_at hl 1 rfl) ?_
        refine x_imul hx hb dX5_become_28 ?_
        refine lv_iload_n hx hb dX5_become_29 rfl (lv_at hl 2 rfl) ?_
        refine x_iadd hx hb dX5_become_30 ?_
        refine lv_aload_n hx hb dX5_become_31 rfl (lv_at hl 0 rfl) ?_
        refine x_get (T := TX5) (N := 17) hx hb hts uX5 hown hK hP (i := 53) (by omega) (show ew12 53 = .inr (5, [.ref (ad 54), .ref (ad 55), .ref (ad 56), .ref (ad 57), .ref (ad 58), .int (xI M.rowMany), .ref (ad 59), .ref (ad 60), .ref (ad 61), .ref (ad 62), .int (xI M.parts), .ref (ad 63), .ref (ad 64), .ref (ad 65), .ref (ad 66), .ref (ad 67), .long M.h]) from hM.1) rfl 4 (by decide) u_fl_RX5_22 rfl dX5_become_32 ?_
        refine lv_iload_n hx hb dX5_become_35 rfl (lv_at hl 2 rfl) ?_
        refine x_ild hx hb hK hP (i := 58) (by omega) hM.2.2.2.2.2.1 (x := M.row K) (by omega) (rfl) dX5_become_36 ?_
        refine x_ist hx hb hK hP hD hS (i := 56) (by omega) hM.2.2.2.1 (by omega) dX5_become_37 (fun H locs hP hS => ?_)
        obtain ⟨en2, he2⟩ : ∃ z, z = va_up ew12 56 (.inl (cA 0, 1600, .inl (upd (fun k => xI (F k)) ((200 * t) + K) (xI (M.row K))))) := ⟨_, rfl⟩
        have hP : va_P D vwCl (xw n ad en2) H := by rw [he2, show (200 * t) + K = (Int.toNat ((200 * (t : Int)) + (K : Int))) by omega]; exact hP
        have hM : MW cA ad en2 (mO M.built M.builtMany (sp_up F ((200 * t) + K) (M.row K)) (sp_up M.toldMany t M.rowMany) M.row M.rowMany M.figures M.partText M.partFrom M.partMany M.parts M.cut M.cutMany M.isCut M.cutGives M.cutAt M.h) := by rw [he2]; exact hM.u_told ((200 * t) + K) (M.row K)
        have ho : xO 53 68 en en2 := by rw [he2]; exact ho.up (by omega) (by omega)
        refine x_iinc (lv' := [(2, .int (xI ((K : Int) + 1))), (0, .ref (ad 53)), (1, .int (xI (t : Int)))]) (k := 2) hx hb dX5_become_38 hl rfl (by decide) rfl (fun ls hl => ?_)
        refine lv_goto (tgt := 12) hx hb dX5_become_41 (by decide) ?_
        exact ih (K + 1) _ en2 _ _ (by omega) (fun k hk => by
      by_cases q : k = K
      · rw [q, sp_up_s]
      · rw [sp_up_n _ _ (by omega)]; exact hF k (by omega)) (fun j hj => by
      rw [sp_up_n _ _ (by omega)]; exact hG j hj) (by omega) hM ho hP hS ls (lv_sub hl [1, 2, 0] rfl)
  exact L12 _ 0 M.told en1 _ _ (Nat.zero_le _) (fun k hk => absurd hk (Nat.not_lt_zero _)) (fun j hj => rfl) (Nat.lt_succ_self _) hM ho hP hS ls (lv_sub hl [1, 2, 0] rfl)

set_option maxRecDepth 20000 in
theorem c_X5_canDrop (l : Launch) (D : va_G) (cA : Nat → ClassId) (n : Nat) (ad : Nat → Nat) (en : Nat → va_E) (hn : 68 ≤ n) {M : MO} (hM : MW cA ad en M) (b : Nat) (hb4 : b < 4) (z2 z3 : Int) (hz2 : -2147483648 ≤ z2 ∧ z2 ≤ 2147483647) (hz3 : -2147483648 ≤ z3 ∧ z3 ≤ 2147483647) (m : Nat) (hm : M.builtMany b = (m : Int)) (hm2 : m ≤ 200) : Met l yX5_canDrop (Cond.code yX5_canDrop cX5_canDrop 4 (some .boolean) :: xU) (xrm 1 25) (va_Pc [.ref (ad 53), .int (xI (b : Int)), .int (xI z2), .int (xI z3)] (xB D cA n ad en)) (vp_Si (fun z => z = xb ((0 ≤ z2 ∧ z2 ≤ (m : Int)) ∧ z2 ≤ z3))) 0 0 (fun _ => False) := by
  refine xmet (by decide) (Nat.le_of_ble_eq_true rfl) (fun p e s mm args below meth c ls hx hb hrt hml hown hts hlocks hname hB hl => ?_)
  obtain ⟨hP, hK, hN⟩ := hB
  have hl : lv_has ls 4 [(0, .ref (ad 53)), (1, .int (xI (b : Int))), (2, .int (xI z2)), (3, .int (xI z3))] := hl
  refine lv_iload_n hx hb dX5_canDrop_0 rfl (lv_at hl 2 rfl) ?_
  refine x_i2l hx hb dX5_canDrop_1 (by omega) ?_
  refine lv_lconst (v := xL 0) hx hb dX5_canDrop_2 (by decide +kernel) ?_
  refine lv_aload_n hx hb dX5_canDrop_3 rfl (lv_at hl 0 rfl) ?_
  refine x_get (T := TX5) (N := 17) hx hb hts uX5 hown hK hP (i := 53) (by omega) hM.1 rfl 1 (by decide) u_fl_RX5_13 rfl dX5_canDrop_4 ?_
  refine lv_iload_n hx hb dX5_canDrop_7 rfl (lv_at hl 1 rfl) ?_
  refine x_ild hx hb hK hP (i := 55) (by omega) hM.2.2.1 (x := M.builtMany b) (by omega) (rfl) dX5_canDrop_8 ?_
  refine x_i2l hx hb dX5_canDrop_9 (by omega) ?_
  refine xt_i (As := [.long (xL z2), .long (xL 0), .long (xL (M.builtMany b))]) (rest := []) ⟨hx, hb, hml, hown, hts⟩ hl.1 (c_X5_in l z2 0 (M.builtMany b) (by omega) (by omega) (by omega)) k_X5_in u_ml_RX5_54 rfl rfl (Nat.le_of_ble_eq_true rfl) ⟨Nat.le_of_ble_eq_true rfl, Nat.le_of_ble_eq_true rfl⟩ ⟨Nat.le_of_ble_eq_true rfl, Nat.le_of_ble_eq_true rfl⟩ dX5_canDrop_10 ?_
  refine x_ifb_eq (tgt := 25) hx hb dX5_canDrop_13 (by decide)  (fun c_13 => ?_) (fun c_13 => ?_)
  · refine x_iconst hx hb dX5_canDrop_25 ?_
    exact xr_z hx hb hrt hlocks (xb_0 (by omega)) dX5_canDrop_26
  · refine lv_iload_n hx hb dX5_canDrop_16 rfl (lv_at hl 2 rfl) ?_
    refine lv_iload_n hx hb dX5_canDrop_17 rfl (lv_at hl 3 rfl) ?_
    refine x_icmp_gt (tgt := 25) hx hb dX5_canDrop_18 (by decide) (by omega) (fun c_18 => ?_) (fun c_18 => ?_)
    · refine x_iconst hx hb dX5_canDrop_25 ?_
      exact xr_z hx hb hrt hlocks (xb_0 (by omega)) dX5_canDrop_26
    · refine x_iconst hx hb dX5_canDrop_21 ?_
      refine lv_goto (tgt := 26) hx hb dX5_canDrop_22 (by decide) ?_
      exact xr_z hx hb hrt hlocks (xb_1 (by omega)) dX5_canDrop_26

set_option maxRecDepth 20000 in
theorem c_X5_endOf (l : Launch) (D : va_G) (cA : Nat → ClassId) (n : Nat) (ad : Nat → Nat) (en : Nat → va_E) (hn : 68 ≤ n) {M : MO} (hM : MW cA ad en M) (b : Nat) (hb4 : b < 4) (z2 : Int) (hz2 : -2147483648 ≤ z2 ∧ z2 ≤ 2147483647) (m : Nat) (hm : M.builtMany b = (m : Int)) (hm2 : m ≤ 200) : Met l yX5_endOf (Cond.code yX5_endOf cX5_endOf 3 (some .int) :: xU) (xrm 0 0) (va_Pc [.ref (ad 53), .int (xI (b : Int)), .int (xI z2)] (xB D cA n ad en)) (vp_Si (fun z => z = xI (min z2 (m : Int)))) 0 0 (fun _ => False) := by
  refine xmet (by decide) (Nat.le_of_ble_eq_true rfl) (fun p e s mm args below meth c ls hx hb hrt hml hown hts hlocks hname hB hl => ?_)
  obtain ⟨hP, hK, hN⟩ := hB
  have hl : lv_has ls 3 [(0, .ref (ad 53)), (1, .int (xI (b : Int))), (2, .int (xI z2))] := hl
  refine lv_iload_n hx hb dX5_endOf_0 rfl (lv_at hl 2 rfl) ?_
  refine lv_aload_n hx hb dX5_endOf_1 rfl (lv_at hl 0 rfl) ?_
  refine x_get (T := TX5) (N := 17) hx hb hts uX5 hown hK hP (i := 53) (by omega) hM.1 rfl 1 (by decide) u_fl_RX5_13 rfl dX5_endOf_2 ?_
  refine lv_iload_n hx hb dX5_endOf_5 rfl (lv_at hl 1 rfl) ?_
  refine x_ild hx hb hK hP (i := 55) (by omega) hM.2.2.1 (x := M.builtMany b) (by omega) (rfl) dX5_endOf_6 ?_
  refine x_icmp_le (tgt := 19) hx hb dX5_endOf_7 (by decide) (by omega) (fun c_7 => ?_) (fun c_7 => ?_)
  · refine lv_iload_n hx hb dX5_endOf_19 rfl (lv_at hl 2 rfl) ?_
    exact xr_i hx hb hrt hlocks (congrArg xI (by omega)) dX5_endOf_20
  · refine lv_aload_n hx hb dX5_endOf_10 rfl (lv_at hl 0 rfl) ?_
    refine x_get (T := TX5) (N := 17) hx hb hts uX5 hown hK hP (i := 53) (by omega) hM.1 rfl 1 (by decide) u_fl_RX5_13 rfl dX5_endOf_11 ?_
    refine lv_iload_n hx hb dX5_endOf_14 rfl (lv_at hl 1 rfl) ?_
    refine x_ild hx hb hK hP (i := 55) (by omega) hM.2.2.1 (x := M.builtMany b) (by omega) (rfl) dX5_endOf_15 ?_
    refine lv_goto (tgt := 20) hx hb dX5_endOf_16 (by decide) ?_
    exact xr_i hx hb hrt hlocks (congrArg xI (by omega)) dX5_endOf_20

set_option maxRecDepth 20000 in
theorem c_X5_layPart (l : Launch) (D : va_G) (cA : Nat → ClassId) (n : Nat) (ad : Nat → Nat) (en : Nat → va_E) (sz : Nat) (hn : 68 ≤ n) {M : MO} (hM : MW cA ad en M) (hp2 : 0 ≤ M.parts ∧ M.parts < 202) (z1 z2 : Int) : Met l yX5_layPart (Cond.code yX5_layPart cX5_layPart 3 none :: xU) (xrm 0 0) (va_Pc [.ref (ad 53), .int (xI z1), .int (xI z2)] (xM D cA n ad en sz)) (va_Qv (fun u => MW cA ad u (mO M.built M.builtMany M.told M.toldMany M.row M.rowMany M.figures M.partText (sp_up M.partFrom (Int.toNat M.parts) z1) (sp_up M.partMany (Int.toNat M.parts) (z2 - z1)) (M.parts + 1) M.cut M.cutMany M.isCut M.cutGives M.cutAt M.h) ∧ xO 53 68 en u) (xE D n ad) (xA n ad sz)) 0 0 (xA n ad sz) := by
  refine xmet (by decide) (Nat.le_of_ble_eq_true rfl) (fun p e s mm args below meth c ls hx hb hrt hml hown hts hlocks hname hB hl => ?_)
  obtain ⟨⟨hP, hK, hN⟩, hsz, hDt⟩ := hB
  have hD : xD (xA n ad sz) n ad := xD_self hDt sz
  have hA : ∀ q : Nat, s.heap.size ≤ q → xA n ad sz q := fun q h => Or.inr (by rw [← hsz]; exact h)
  have hS : va_S (xA n ad sz) s.heap s.heap [] := va_S.rf
  have hown : s.vm.findClass RX5 = some mm.cls := hown
  have hl : lv_has ls 3 [(0, .ref (ad 53)), (1, .int (xI z1)), (2, .int (xI z2))] := hl
  have ho : xO 53 68 en en := xO.rf
  refine lv_aload_n hx hb dX5_layPart_0 rfl (lv_at hl 0 rfl) ?_
  refine x_get (T := TX5) (N := 17) hx hb hts uX5 hown hK hP (i := 53) (by omega) hM.1 rfl 8 (by decide) u_fl_RX5_31 rfl dX5_layPart_1 ?_
  refine lv_aload_n hx hb dX5_layPart_4 rfl (lv_at hl 0 rfl) ?_
  refine x_get (T := TX5) (N := 17) hx hb hts uX5 hown hK hP (i := 53) (by omega) hM.1 rfl 10 (by decide) u_fl_RX5_148 rfl dX5_layPart_5 ?_
  refine lv_iload_n hx hb dX5_layPart_8 rfl (lv_at hl 1 rfl) ?_
  refine x_ist hx hb hK hP hD hS (i := 61) (by omega) hM.2.2.2.2.2.2.2.2.1 (by omega) dX5_layPart_9 (fun H locs hP hS => ?_)
  obtain ⟨en1, he1⟩ : ∃ z, z = va_up en 61 (.inl (cA 0, 202, .inl (upd (fun k => xI (M.partFrom k)) (Int.toNat M.parts) (xI z1)))) := ⟨_, rfl⟩
  have hP : va_P D vwCl (xw n ad en1) H := by rw [he1]; exact hP
  have hM : MW cA ad en1 (mO M.built M.builtMany M.told M.toldMany M.row M.rowMany M.figures M.partText (sp_up M.partFrom (Int.toNat M.parts) z1) M.partMany M.parts M.cut M.cutMany M.isCut M.cutGives M.cutAt M.h) := by rw [he1]; exact hM.u_partFrom (Int.toNat M.parts) z1
  have ho : xO 53 68 en en1 := by rw [he1]; exact ho.up (by omega) (by omega)
  refine lv_aload_n hx hb dX5_layPart_10 rfl (lv_at hl 0 rfl) ?_
  refine x_get (T := TX5) (N := 17) hx hb hts uX5 hown hK hP (i := 53) (by omega) (show en1 53 = .inr (5, [.ref (ad 54), .ref (ad 55), .ref (ad 56), .ref (ad 57), .ref (ad 58), .int (xI M.rowMany), .ref (ad 59), .ref (ad 60), .ref (ad 61), .ref (ad 62), .int (xI M.parts), .ref (ad 63), .ref (ad 64), .ref (ad 65), .ref (ad 66), .ref (ad 67), .long M.h]) from hM.1) rfl 9 (by decide) u_fl_RX5_34 rfl dX5_layPart_11 ?_
  refine lv_aload_n hx hb dX5_layPart_14 rfl (lv_at hl 0 rfl) ?_
  refine x_get (T := TX5) (N := 17) hx hb hts uX5 hown hK hP (i := 53) (by omega) (show en1 53 = .inr (5, [.ref (ad 54), .ref (ad 55), .ref (ad 56), .ref (ad 57), .ref (ad 58), .int (xI M.rowMany), .ref (ad 59), .ref (ad 60), .ref (ad 61), .ref (ad 62), .int (xI M.parts), .ref (ad 63), .ref (ad 64), .ref (ad 65), .ref (ad 66), .ref (ad 67), .long M.h]) from hM.1) rfl 10 (by decide) u_fl_RX5_148 rfl dX5_layPart_15 ?_
  refine lv_iload_n hx hb dX5_layPart_18 rfl (lv_at hl 2 rfl) ?_
  refine lv_iload_n hx hb dX5_layPart_19 rfl (lv_at hl 1 rfl) ?_
  refine x_isub hx hb dX5_layPart_20 ?_
  refine x_ist hx hb hK hP hD hS (i := 62) (by omega) hM.2.2.2.2.2.2.2.2.2.1 (by omega) dX5_layPart_21 (fun H locs hP hS => ?_)
  obtain ⟨en2, he2⟩ : ∃ z, z = va_up en1 62 (.inl (cA 0, 202, .inl (upd (fun k => xI (M.partMany k)) (Int.toNat M.parts) (xI (z2 - z1))))) := ⟨_, rfl⟩
  have hP : va_P D vwCl (xw n ad en2) H := by rw [he2]; exact hP
  have hM : MW cA ad en2 (mO M.built M.builtMany M.told M.toldMany M.row M.rowMany M.figures M.partText (sp_up M.partFrom (Int.toNat M.parts) z1) (sp_up M.partMany (Int.toNat M.parts) (z2 - z1)) M.parts M.cut M.cutMany M.isCut M.cutGives M.cutAt M.h) := by rw [he2]; exact hM.u_partMany (Int.toNat M.parts) (z2 - z1)
  have ho : xO 53 68 en en2 := by rw [he2]; exact ho.up (by omega) (by omega)
  refine lv_aload_n hx hb dX5_layPart_22 rfl (lv_at hl 0 rfl) ?_
  refine lv_dup hx hb dX5_layPart_23 rfl ?_
  refine x_get (T := TX5) (N := 17) hx hb hts uX5 hown hK hP (i := 53) (by omega) (show en2 53 = .inr (5, [.ref (ad 54), .ref (ad 55), .ref (ad 56), .ref (ad 57), .ref (ad 58), .int (xI M.rowMany), .ref (ad 59), .ref (ad 60), .ref (ad 61), .ref (ad 62), .int (xI M.parts), .ref (ad 63), .ref (ad 64), .ref (ad 65), .ref (ad 66), .ref (ad 67), .long M.h]) from hM.1) rfl 10 (by decide) u_fl_RX5_148 rfl dX5_layPart_24 ?_
  refine x_iconst hx hb dX5_layPart_27 ?_
  refine x_iadd hx hb dX5_layPart_28 ?_
  refine x_put (T := TX5) (N := 17) (ty := .int) hx hb hts uX5 tyX5 tyX5_ok nmX5 hown hK hP hD hS (i := 53) (by omega) (show en2 53 = .inr (5, [.ref (ad 54), .ref (ad 55), .ref (ad 56), .ref (ad 57), .ref (ad 58), .int (xI M.rowMany), .ref (ad 59), .ref (ad 60), .ref (ad 61), .ref (ad 62), .int (xI M.parts), .ref (ad 63), .ref (ad 64), .ref (ad 65), .ref (ad 66), .ref (ad 67), .long M.h]) from hM.1) rfl 10 (by decide) u_fl_RX5_148 rfl (by decide +kernel) rfl rfl (by show 10 < 17; decide) dX5_layPart_29 (fun H locs hP hS => ?_)
  obtain ⟨en3, he3⟩ : ∃ z, z = va_up en2 53 (.inr (5, [.ref (ad 54), .ref (ad 55), .ref (ad 56), .ref (ad 57), .ref (ad 58), .int (xI M.rowMany), .ref (ad 59), .ref (ad 60), .ref (ad 61), .ref (ad 62), .int (xI (M.parts + 1)), .ref (ad 63), .ref (ad 64), .ref (ad 65), .ref (ad 66), .ref (ad 67), .long M.h])) := ⟨_, rfl⟩
  have hP : va_P D vwCl (xw n ad en3) H := by rw [he3]; exact hP
  have hM : MW cA ad en3 (mO M.built M.builtMany M.told M.toldMany M.row M.rowMany M.figures M.partText (sp_up M.partFrom (Int.toNat M.parts) z1) (sp_up M.partMany (Int.toNat M.parts) (z2 - z1)) (M.parts + 1) M.cut M.cutMany M.isCut M.cutGives M.cutAt M.h) := by rw [he3]; exact hM.s_parts (M.parts + 1)
  have ho : xO 53 68 en en3 := by rw [he3]; exact ho.up (by omega) (by omega)
  exact xe_v hx hb hrt hlocks hP hS (⟨hM, ho⟩) dX5_layPart_32

set_option maxRecDepth 20000 in
theorem c_X5_mix (l : Launch) (D : va_G) (cA : Nat → ClassId) (n : Nat) (ad : Nat → Nat) (en : Nat → va_E) (sz : Nat) (hn : 68 ≤ n) {M : MO} (hM : MW cA ad en M) (z1 : Int) : Met l yX5_mix (Cond.code yX5_mix cX5_mix 3 none :: xU) (xrm 0 0) (va_Pc [.ref (ad 53), .long (xL z1)] (xM D cA n ad en sz)) (va_Qv (fun u => MW cA ad u (mO M.built M.builtMany M.told M.toldMany M.row M.rowMany M.figures M.partText M.partFrom M.partMany M.parts M.cut M.cutMany M.isCut M.cutGives M.cutAt (xL 31 * M.h + xL z1)) ∧ xO 53 68 en u) (xE D n ad) (xA n ad sz)) 0 0 (xA n ad sz) := by
  refine xmet (by decide) (Nat.le_of_ble_eq_true rfl) (fun p e s mm args below meth c ls hx hb hrt hml hown hts hlocks hname hB hl => ?_)
  obtain ⟨⟨hP, hK, hN⟩, hsz, hDt⟩ := hB
  have hD : xD (xA n ad sz) n ad := xD_self hDt sz
  have hA : ∀ q : Nat, s.heap.size ≤ q → xA n ad sz q := fun q h => Or.inr (by rw [← hsz]; exact h)
  have hS : va_S (xA n ad sz) s.heap s.heap [] := va_S.rf
  have hown : s.vm.findClass RX5 = some mm.cls := hown
  have hl : lv_has ls 3 [(0, .ref (ad 53)), (1, .long (xL z1))] := hl
  have ho : xO 53 68 en en := xO.rf
  refine lv_aload_n hx hb dX5_mix_0 rfl (lv_at hl 0 rfl) ?_
  refine x_ldc2 hx hb hown (hts _ u_ko_RX5_182) (k := 31) (by decide +kernel) dX5_mix_1 ?_
  refine lv_aload_n hx hb dX5_mix_4 rfl (lv_at hl 0 rfl) ?_
  refine x_get (T := TX5) (N := 17) hx hb hts uX5 hown hK hP (i := 53) (by omega) hM.1 rfl 16 (by decide) u_fl_RX5_184 rfl dX5_mix_5 ?_
  refine lv_lmul hx hb dX5_mix_8 ?_
  refine lv_lload_n hx hb dX5_mix_9 rfl (lv_at hl 1 rfl) ?_
  refine lv_ladd hx hb dX5_mix_10 ?_
  refine x_put (T := TX5) (N := 17) (ty := .long) hx hb hts uX5 tyX5 tyX5_ok nmX5 hown hK hP hD hS (i := 53) (by omega) hM.1 rfl 16 (by decide) u_fl_RX5_184 rfl (by decide +kernel) rfl rfl (by show 16 < 17; decide) dX5_mix_11 (fun H locs hP hS => ?_)
  obtain ⟨en1, he1⟩ : ∃ z, z = va_up en 53 (.inr (5, [.ref (ad 54), .ref (ad 55), .ref (ad 56), .ref (ad 57), .ref (ad 58), .int (xI M.rowMany), .ref (ad 59), .ref (ad 60), .ref (ad 61), .ref (ad 62), .int (xI M.parts), .ref (ad 63), .ref (ad 64), .ref (ad 65), .ref (ad 66), .ref (ad 67), .long (((xL 31) * M.h) + (xL z1))])) := ⟨_, rfl⟩
  have hP : va_P D vwCl (xw n ad en1) H := by rw [he1]; exact hP
  have hM : MW cA ad en1 (mO M.built M.builtMany M.told M.toldMany M.row M.rowMany M.figures M.partText M.partFrom M.partMany M.parts M.cut M.cutMany M.isCut M.cutGives M.cutAt (((xL 31) * M.h) + (xL z1))) := by rw [he1]; exact hM.s_h (((xL 31) * M.h) + (xL z1))
  have ho : xO 53 68 en en1 := by rw [he1]; exact ho.up (by omega) (by omega)
  exact xe_v hx hb hrt hlocks hP hS (⟨hM, ho⟩) dX5_mix_14
