theorem xz_arr : (fun _ : Nat => (0 : Int32)) = fun k => xI ((fun _ : Nat => (0 : Int)) k) := funext fun _ => xI_z

set_option maxHeartbeats 2000000 in
set_option maxRecDepth 20000 in
theorem c_X5_init (l : Launch) (D : va_G) (cA : Nat → ClassId) (ad : Nat → Nat) (en : Nat → va_E) (sz : Nat) (he : en 53 = .inr (5, [.null, .null, .null, .null, .null, .int (xI 0), .null, .null, .null, .null, .int (xI 0), .null, .null, .null, .null, .null, .long 0])) : Met l yX5_init (Cond.code yX5_init cX5_init 2 none :: xU) (xrg 1 14 4178 12) (va_Pc [.ref (ad 53)] (xMg D cA (54) ad en sz)) (va_Qv (fun u => xG 53 ad u.1 en u.2 ∧ u.1 53 = ad 53 ∧ ∃ M : MO, MW cA u.1 u.2 M ∧ MR sp_S0 M) (xEg D (68) (54) ad sz) (xA (54) ad sz)) 14 4178 (xA (54) ad sz) := by
  refine xmet (by decide) (Nat.le_of_ble_eq_true rfl) (fun p e s mm args below meth c ls hx hb hrt hml hown hts hlocks hname hB hl => ?_)
  obtain ⟨⟨⟨hP, hK, hN⟩, hsz, hDt⟩, hQ⟩ := hB
  have hD : xD (xA (54) ad sz) (54) ad := xD_self hDt sz
  have hA : ∀ q : Nat, s.heap.size ≤ q → xA (54) ad sz q := fun q h => Or.inr (by rw [← hsz]; exact h)
  have hS : va_S (xA (54) ad sz) s.heap s.heap [] := va_S.rf
  have hown : s.vm.findClass RX5 = some mm.cls := hown
  have hl : lv_has ls 2 [(0, .ref (ad 53))] := hl
  refine lv_aload_n hx hb dX5_init_0 rfl (lv_at hl 0 rfl) ?_
  refine W.objInit hx hb hown (hts _ u_ml_RX5_1) (hts _ u_im_objectInit) (hts _ u_co_objectInit) rfl (by rw [hml]; exact hl.1) rfl dX5_init_1 (Nat.le_of_ble_eq_true rfl) (Nat.le_of_ble_eq_true rfl) ?_
  refine W.eq (g2 := F0 mm 4 ls []) rfl ?_
  refine lv_aload_n hx hb dX5_init_4 rfl (lv_at hl 0 rfl) ?_
  refine x_sipush hx hb dX5_init_5 (by decide +kernel) ?_
  refine x_newi hx hb hts hK hP hD hS hA (k := 800) (by omega) (by show 0 + 1 ≤ 14; omega) (by show 0 + 800 ≤ 4178; omega) dX5_init_8 (fun ad1 en1 H hg1 he1 hP hD hS => ?_)
  have hl : lv_has ls 2 [(0, .ref (ad1 53))] := by rw [(hg1 53 (by omega)).1]; exact hl
  refine x_tor1 ((hg1 53 (by omega)).1.symm) ?_
  have hm2 : en1 53 = .inr (5, [.null, .null, .null, .null, .null, .int (xI 0), .null, .null, .null, .null, .int (xI 0), .null, .null, .null, .null, .null, .long 0]) := (hg1 53 (by omega)).2.trans he
  have hG : xG 53 ad ad1 en en1 := hg1.le (by omega)
  have hG1 : ad1 53 = ad 53 := (hg1 53 (by omega)).1
  refine x_putF (T := TX5) (N := 17) (ty := tyX5 0) hx hb hts uX5 tyX5 tyX5_ok nmX5 hown hK hP hD hS (i := 53) (by omega) hm2 rfl 0 (by decide) u_fl_RX5_7 rfl hname rfl (by decide +kernel) rfl rfl (by show 0 < 17; decide) dX5_init_10 (fun H locs hP hS => ?_)
  have hP : va_P D vwCl (xw 55 ad1 (va_up en1 53 (.inr (5, [.ref (ad1 54), .null, .null, .null, .null, .int (xI 0), .null, .null, .null, .null, .int (xI 0), .null, .null, .null, .null, .null, .long 0])))) H := hP
  obtain ⟨en3, he3⟩ : ∃ z, z = va_up en1 53 (.inr (5, [.ref (ad1 54), .null, .null, .null, .null, .int (xI 0), .null, .null, .null, .null, .int (xI 0), .null, .null, .null, .null, .null, .long 0])) := ⟨_, rfl⟩
  rw [← he3] at hP
  have ho3 : en3 53 = (.inr (5, [.ref (ad1 54), .null, .null, .null, .null, .int (xI 0), .null, .null, .null, .null, .int (xI 0), .null, .null, .null, .null, .null, .long 0])) := by rw [he3, va_up_self]
  have hk4 := (show en3 54 = en1 54 from by rw [he3, va_up_ne _ _ (by omega)]).trans he1
  have hG : xG 53 ad ad1 en en3 := by rw [he3]; exact hG.up (by omega)
  refine lv_aload_n hx hb dX5_init_13 rfl (lv_at hl 0 rfl) ?_
  refine x_iconst hx hb dX5_init_14 ?_
  refine x_newi hx hb hts hK hP hD hS hA (k := 4) (by omega) (by show 0 + 1 + 1 ≤ 14; omega) (by show 0 + 800 + 4 ≤ 4178; omega) dX5_init_15 (fun ad5 en5 H hg5 he5 hP hD hS => ?_)
  have hl : lv_has ls 2 [(0, .ref (ad5 53))] := by rw [(hg5 53 (by omega)).1]; exact hl
  refine x_tor1 ((hg5 53 (by omega)).1.symm) ?_
  have hm6 : en5 53 = .inr (5, [.ref (ad5 54), .null, .null, .null, .null, .int (xI 0), .null, .null, .null, .null, .int (xI 0), .null, .null, .null, .null, .null, .long 0]) := by rw [(hg5 54 (by omega)).1]; exact (hg5 53 (by omega)).2.trans ho3
  have hm7 := (hg5 54 (by omega)).2.trans hk4
  have hG : xG 53 ad ad5 en en5 := hG.tr hg5 (by omega)
  have hG1 : ad5 53 = ad 53 := (hg5 53 (by omega)).1.trans hG1
  refine x_putF (T := TX5) (N := 17) (ty := tyX5 1) hx hb hts uX5 tyX5 tyX5_ok nmX5 hown hK hP hD hS (i := 53) (by omega) hm6 rfl 1 (by decide) u_fl_RX5_13 rfl hname rfl (by decide +kernel) rfl rfl (by show 1 < 17; decide) dX5_init_17 (fun H locs hP hS => ?_)
  have hP : va_P D vwCl (xw 56 ad5 (va_up en5 53 (.inr (5, [.ref (ad5 54), .ref (ad5 55), .null, .null, .null, .int (xI 0), .null, .null, .null, .null, .int (xI 0), .null, .null, .null, .null, .null, .long 0])))) H := hP
  obtain ⟨en8, he8⟩ : ∃ z, z = va_up en5 53 (.inr (5, [.ref (ad5 54), .ref (ad5 55), .null, .null, .null, .int (xI 0), .null, .null, .null, .null, .int (xI 0), .null, .null, .null, .null, .null, .long 0])) := ⟨_, rfl⟩
  rw [← he8] at hP
  have ho8 : en8 53 = (.inr (5, [.ref (ad5 54), .ref (ad5 55), .null, .null, .null, .int (xI 0), .null, .null, .null, .null, .int (xI 0), .null, .null, .null, .null, .null, .long 0])) := by rw [he8, va_up_self]
  have hk9 := (show en8 54 = en5 54 from by rw [he8, va_up_ne _ _ (by omega)]).trans hm7
  have hk10 := (show en8 55 = en5 55 from by rw [he8, va_up_ne _ _ (by omega)]).trans he5
  have hG : xG 53 ad ad5 en en8 := by rw [he8]; exact hG.up (by omega)
  refine lv_aload_n hx hb dX5_init_20 rfl (lv_at hl 0 rfl) ?_
  refine x_sipush hx hb dX5_init_21 (by decide +kernel) ?_
  refine x_newi hx hb hts hK hP hD hS hA (k := 1600) (by omega) (by show 0 + 1 + 1 + 1 ≤ 14; omega) (by show 0 + 800 + 4 + 1600 ≤ 4178; omega) dX5_init_24 (fun ad11 en11 H hg11 he11 hP hD hS => ?_)
  have hl : lv_has ls 2 [(0, .ref (ad11 53))] := by rw [(hg11 53 (by omega)).1]; exact hl
  refine x_tor1 ((hg11 53 (by omega)).1.symm) ?_
  have hm12 : en11 53 = .inr (5, [.ref (ad11 54), .ref (ad11 55), .null, .null, .null, .int (xI 0), .null, .null, .null, .null, .int (xI 0), .null, .null, .null, .null, .null, .long 0]) := by rw [(hg11 54 (by omega)).1, (hg11 55 (by omega)).1]; exact (hg11 53 (by omega)).2.trans ho8
  have hm13 := (hg11 54 (by omega)).2.trans hk9
  have hm14 := (hg11 55 (by omega)).2.trans hk10
  have hG : xG 53 ad ad11 en en11 := hG.tr hg11 (by omega)
  have hG1 : ad11 53 = ad 53 := (hg11 53 (by omega)).1.trans hG1
  refine x_putF (T := TX5) (N := 17) (ty := tyX5 2) hx hb hts uX5 tyX5 tyX5_ok nmX5 hown hK hP hD hS (i := 53) (by omega) hm12 rfl 2 (by decide) u_fl_RX5_16 rfl hname rfl (by decide +kernel) rfl rfl (by show 2 < 17; decide) dX5_init_26 (fun H locs hP hS => ?_)
  have hP : va_P D vwCl (xw 57 ad11 (va_up en11 53 (.inr (5, [.ref (ad11 54), .ref (ad11 55), .ref (ad11 56), .null, .null, .int (xI 0), .null, .null, .null, .null, .int (xI 0), .null, .null, .null, .null, .null, .long 0])))) H := hP
  obtain ⟨en15, he15⟩ : ∃ z, z = va_up en11 53 (.inr (5, [.ref (ad11 54), .ref (ad11 55), .ref (ad11 56), .null, .null, .int (xI 0), .null, .null, .null, .null, .int (xI 0), .null, .null, .null, .null, .null, .long 0])) := ⟨_, rfl⟩
  rw [← he15] at hP
  have ho15 : en15 53 = (.inr (5, [.ref (ad11 54), .ref (ad11 55), .ref (ad11 56), .null, .null, .int (xI 0), .null, .null, .null, .null, .int (xI 0), .null, .null, .null, .null, .null, .long 0])) := by rw [he15, va_up_self]
  have hk16 := (show en15 54 = en11 54 from by rw [he15, va_up_ne _ _ (by omega)]).trans hm13
  have hk17 := (show en15 55 = en11 55 from by rw [he15, va_up_ne _ _ (by omega)]).trans hm14
  have hk18 := (show en15 56 = en11 56 from by rw [he15, va_up_ne _ _ (by omega)]).trans he11
  have hG : xG 53 ad ad11 en en15 := by rw [he15]; exact hG.up (by omega)
  refine lv_aload_n hx hb dX5_init_29 rfl (lv_at hl 0 rfl) ?_
  refine x_bipush hx hb dX5_init_30 (by decide +kernel) ?_
  refine x_newi hx hb hts hK hP hD hS hA (k := 8) (by omega) (by show 0 + 1 + 1 + 1 + 1 ≤ 14; omega) (by show 0 + 800 + 4 + 1600 + 8 ≤ 4178; omega) dX5_init_32 (fun ad19 en19 H hg19 he19 hP hD hS => ?_)
  have hl : lv_has ls 2 [(0, .ref (ad19 53))] := by rw [(hg19 53 (by omega)).1]; exact hl
  refine x_tor1 ((hg19 53 (by omega)).1.symm) ?_
  have hm20 : en19 53 = .inr (5, [.ref (ad19 54), .ref (ad19 55), .ref (ad19 56), .null, .null, .int (xI 0), .null, .null, .null, .null, .int (xI 0), .null, .null, .null, .null, .null, .long 0]) := by rw [(hg19 54 (by omega)).1, (hg19 55 (by omega)).1, (hg19 56 (by omega)).1]; exact (hg19 53 (by omega)).2.trans ho15
  have hm21 := (hg19 54 (by omega)).2.trans hk16
  have hm22 := (hg19 55 (by omega)).2.trans hk17
  have hm23 := (hg19 56 (by omega)).2.trans hk18
  have hG : xG 53 ad ad19 en en19 := hG.tr hg19 (by omega)
  have hG1 : ad19 53 = ad 53 := (hg19 53 (by omega)).1.trans hG1
  refine x_putF (T := TX5) (N := 17) (ty := tyX5 3) hx hb hts uX5 tyX5 tyX5_ok nmX5 hown hK hP hD hS (i := 53) (by omega) hm20 rfl 3 (by decide) u_fl_RX5_19 rfl hname rfl (by decide +kernel) rfl rfl (by show 3 < 17; decide) dX5_init_34 (fun H locs hP hS => ?_)
  have hP : va_P D vwCl (xw 58 ad19 (va_up en19 53 (.inr (5, [.ref (ad19 54), .ref (ad19 55), .ref (ad19 56), .ref (ad19 57), .null, .int (xI 0), .null, .null, .null, .null, .int (xI 0), .null, .null, .null, .null, .null, .long 0])))) H := hP
  obtain ⟨en24, he24⟩ : ∃ z, z = va_up en19 53 (.inr (5, [.ref (ad19 54), .ref (ad19 55), .ref (ad19 56), .ref (ad19 57), .null, .int (xI 0), .null, .null, .null, .null, .int (xI 0), .null, .null, .null, .null, .null, .long 0])) := ⟨_, rfl⟩
  rw [← he24] at hP
  have ho24 : en24 53 = (.inr (5, [.ref (ad19 54), .ref (ad19 55), .ref (ad19 56), .ref (ad19 57), .null, .int (xI 0), .null, .null, .null, .null, .int (xI 0), .null, .null, .null, .null, .null, .long 0])) := by rw [he24, va_up_self]
  have hk25 := (show en24 54 = en19 54 from by rw [he24, va_up_ne _ _ (by omega)]).trans hm21
  have hk26 := (show en24 55 = en19 55 from by rw [he24, va_up_ne _ _ (by omega)]).trans hm22
  have hk27 := (show en24 56 = en19 56 from by rw [he24, va_up_ne _ _ (by omega)]).trans hm23
  have hk28 := (show en24 57 = en19 57 from by rw [he24, va_up_ne _ _ (by omega)]).trans he19
  have hG : xG 53 ad ad19 en en24 := by rw [he24]; exact hG.up (by omega)
  refine lv_aload_n hx hb dX5_init_37 rfl (lv_at hl 0 rfl) ?_
  refine x_sipush hx hb dX5_init_38 (by decide +kernel) ?_
  refine x_newi hx hb hts hK hP hD hS hA (k := 220) (by omega) (by show 0 + 1 + 1 + 1 + 1 + 1 ≤ 14; omega) (by show 0 + 800 + 4 + 1600 + 8 + 220 ≤ 4178; omega) dX5_init_41 (fun ad29 en29 H hg29 he29 hP hD hS => ?_)
  have hl : lv_has ls 2 [(0, .ref (ad29 53))] := by rw [(hg29 53 (by omega)).1]; exact hl
  refine x_tor1 ((hg29 53 (by omega)).1.symm) ?_
  have hm30 : en29 53 = .inr (5, [.ref (ad29 54), .ref (ad29 55), .ref (ad29 56), .ref (ad29 57), .null, .int (xI 0), .null, .null, .null, .null, .int (xI 0), .null, .null, .null, .null, .null, .long 0]) := by rw [(hg29 54 (by omega)).1, (hg29 55 (by omega)).1, (hg29 56 (by omega)).1, (hg29 57 (by omega)).1]; exact (hg29 53 (by omega)).2.trans ho24
  have hm31 := (hg29 54 (by omega)).2.trans hk25
  have hm32 := (hg29 55 (by omega)).2.trans hk26
  have hm33 := (hg29 56 (by omega)).2.trans hk27
  have hm34 := (hg29 57 (by omega)).2.trans hk28
  have hG : xG 53 ad ad29 en en29 := hG.tr hg29 (by omega)
  have hG1 : ad29 53 = ad 53 := (hg29 53 (by omega)).1.trans hG1
  refine x_putF (T := TX5) (N := 17) (ty := tyX5 4) hx hb hts uX5 tyX5 tyX5_ok nmX5 hown hK hP hD hS (i := 53) (by omega) hm30 rfl 4 (by decide) u_fl_RX5_22 rfl hname rfl (by decide +kernel) rfl rfl (by show 4 < 17; decide) dX5_init_43 (fun H locs hP hS => ?_)
  have hP : va_P D vwCl (xw 59 ad29 (va_up en29 53 (.inr (5, [.ref (ad29 54), .ref (ad29 55), .ref (ad29 56), .ref (ad29 57), .ref (ad29 58), .int (xI 0), .null, .null, .null, .null, .int (xI 0), .null, .null, .null, .null, .null, .long 0])))) H := hP
  obtain ⟨en35, he35⟩ : ∃ z, z = va_up en29 53 (.inr (5, [.ref (ad29 54), .ref (ad29 55), .ref (ad29 56), .ref (ad29 57), .ref (ad29 58), .int (xI 0), .null, .null, .null, .null, .int (xI 0), .null, .null, .null, .null, .null, .long 0])) := ⟨_, rfl⟩
  rw [← he35] at hP
  have ho35 : en35 53 = (.inr (5, [.ref (ad29 54), .ref (ad29 55), .ref (ad29 56), .ref (ad29 57), .ref (ad29 58), .int (xI 0), .null, .null, .null, .null, .int (xI 0), .null, .null, .null, .null, .null, .long 0])) := by rw [he35, va_up_self]
  have hk36 := (show en35 54 = en29 54 from by rw [he35, va_up_ne _ _ (by omega)]).trans hm31
  have hk37 := (show en35 55 = en29 55 from by rw [he35, va_up_ne _ _ (by omega)]).trans hm32
  have hk38 := (show en35 56 = en29 56 from by rw [he35, va_up_ne _ _ (by omega)]).trans hm33
  have hk39 := (show en35 57 = en29 57 from by rw [he35, va_up_ne _ _ (by omega)]).trans hm34
  have hk40 := (show en35 58 = en29 58 from by rw [he35, va_up_ne _ _ (by omega)]).trans he29
  have hG : xG 53 ad ad29 en en35 := by rw [he35]; exact hG.up (by omega)
  refine lv_aload_n hx hb dX5_init_46 rfl (lv_at hl 0 rfl) ?_
  refine x_bipush hx hb dX5_init_47 (by decide +kernel) ?_
  refine x_newi hx hb hts hK hP hD hS hA (k := 24) (by omega) (by show 0 + 1 + 1 + 1 + 1 + 1 + 1 ≤ 14; omega) (by show 0 + 800 + 4 + 1600 + 8 + 220 + 24 ≤ 4178; omega) dX5_init_49 (fun ad41 en41 H hg41 he41 hP hD hS => ?_)
  have hl : lv_has ls 2 [(0, .ref (ad41 53))] := by rw [(hg41 53 (by omega)).1]; exact hl
  refine x_tor1 ((hg41 53 (by omega)).1.symm) ?_
  have hm42 : en41 53 = .inr (5, [.ref (ad41 54), .ref (ad41 55), .ref (ad41 56), .ref (ad41 57), .ref (ad41 58), .int (xI 0), .null, .null, .null, .null, .int (xI 0), .null, .null, .null, .null, .null, .long 0]) := by rw [(hg41 54 (by omega)).1, (hg41 55 (by omega)).1, (hg41 56 (by omega)).1, (hg41 57 (by omega)).1, (hg41 58 (by omega)).1]; exact (hg41 53 (by omega)).2.trans ho35
  have hm43 := (hg41 54 (by omega)).2.trans hk36
  have hm44 := (hg41 55 (by omega)).2.trans hk37
  have hm45 := (hg41 56 (by omega)).2.trans hk38
  have hm46 := (hg41 57 (by omega)).2.trans hk39
  have hm47 := (hg41 58 (by omega)).2.trans hk40
  have hG : xG 53 ad ad41 en en41 := hG.tr hg41 (by omega)
  have hG1 : ad41 53 = ad 53 := (hg41 53 (by omega)).1.trans hG1
  refine x_putF (T := TX5) (N := 17) (ty := tyX5 6) hx hb hts uX5 tyX5 tyX5_ok nmX5 hown hK hP hD hS (i := 53) (by omega) hm42 rfl 6 (by decide) u_fl_RX5_25 rfl hname rfl (by decide +kernel) rfl rfl (by show 6 < 17; decide) dX5_init_51 (fun H locs hP hS => ?_)
  have hP : va_P D vwCl (xw 60 ad41 (va_up en41 53 (.inr (5, [.ref (ad41 54), .ref (ad41 55), .ref (ad41 56), .ref (ad41 57), .ref (ad41 58), .int (xI 0), .ref (ad41 59), .null, .null, .null, .int (xI 0), .null, .null, .null, .null, .null, .long 0])))) H := hP
  obtain ⟨en48, he48⟩ : ∃ z, z = va_up en41 53 (.inr (5, [.ref (ad41 54), .ref (ad41 55), .ref (ad41 56), .ref (ad41 57), .ref (ad41 58), .int (xI 0), .ref (ad41 59), .null, .null, .null, .int (xI 0), .null, .null, .null, .null, .null, .long 0])) := ⟨_, rfl⟩
  rw [← he48] at hP
  have ho48 : en48 53 = (.inr (5, [.ref (ad41 54), .ref (ad41 55), .ref (ad41 56), .ref (ad41 57), .ref (ad41 58), .int (xI 0), .ref (ad41 59), .null, .null, .null, .int (xI 0), .null, .null, .null, .null, .null, .long 0])) := by rw [he48, va_up_self]
  have hk49 := (show en48 54 = en41 54 from by rw [he48, va_up_ne _ _ (by omega)]).trans hm43
  have hk50 := (show en48 55 = en41 55 from by rw [he48, va_up_ne _ _ (by omega)]).trans hm44
  have hk51 := (show en48 56 = en41 56 from by rw [he48, va_up_ne _ _ (by omega)]).trans hm45
  have hk52 := (show en48 57 = en41 57 from by rw [he48, va_up_ne _ _ (by omega)]).trans hm46
  have hk53 := (show en48 58 = en41 58 from by rw [he48, va_up_ne _ _ (by omega)]).trans hm47
  have hk54 := (show en48 59 = en41 59 from by rw [he48, va_up_ne _ _ (by omega)]).trans he41
  have hG : xG 53 ad ad41 en en48 := by rw [he48]; exact hG.up (by omega)
  refine lv_aload_n hx hb dX5_init_54 rfl (lv_at hl 0 rfl) ?_
  refine x_sipush hx hb dX5_init_55 (by decide +kernel) ?_
  refine x_newi hx hb hts hK hP hD hS hA (k := 200) (by omega) (by show 0 + 1 + 1 + 1 + 1 + 1 + 1 + 1 ≤ 14; omega) (by show 0 + 800 + 4 + 1600 + 8 + 220 + 24 + 200 ≤ 4178; omega) dX5_init_58 (fun ad55 en55 H hg55 he55 hP hD hS => ?_)
  have hl : lv_has ls 2 [(0, .ref (ad55 53))] := by rw [(hg55 53 (by omega)).1]; exact hl
  refine x_tor1 ((hg55 53 (by omega)).1.symm) ?_
  have hm56 : en55 53 = .inr (5, [.ref (ad55 54), .ref (ad55 55), .ref (ad55 56), .ref (ad55 57), .ref (ad55 58), .int (xI 0), .ref (ad55 59), .null, .null, .null, .int (xI 0), .null, .null, .null, .null, .null, .long 0]) := by rw [(hg55 54 (by omega)).1, (hg55 55 (by omega)).1, (hg55 56 (by omega)).1, (hg55 57 (by omega)).1, (hg55 58 (by omega)).1, (hg55 59 (by omega)).1]; exact (hg55 53 (by omega)).2.trans ho48
  have hm57 := (hg55 54 (by omega)).2.trans hk49
  have hm58 := (hg55 55 (by omega)).2.trans hk50
  have hm59 := (hg55 56 (by omega)).2.trans hk51
  have hm60 := (hg55 57 (by omega)).2.trans hk52
  have hm61 := (hg55 58 (by omega)).2.trans hk53
  have hm62 := (hg55 59 (by omega)).2.trans hk54
  have hG : xG 53 ad ad55 en en55 := hG.tr hg55 (by omega)
  have hG1 : ad55 53 = ad 53 := (hg55 53 (by omega)).1.trans hG1
  refine x_putF (T := TX5) (N := 17) (ty := tyX5 7) hx hb hts uX5 tyX5 tyX5_ok nmX5 hown hK hP hD hS (i := 53) (by omega) hm56 rfl 7 (by decide) u_fl_RX5_28 rfl hname rfl (by decide +kernel) rfl rfl (by show 7 < 17; decide) dX5_init_60 (fun H locs hP hS => ?_)
  have hP : va_P D vwCl (xw 61 ad55 (va_up en55 53 (.inr (5, [.ref (ad55 54), .ref (ad55 55), .ref (ad55 56), .ref (ad55 57), .ref (ad55 58), .int (xI 0), .ref (ad55 59), .ref (ad55 60), .null, .null, .int (xI 0), .null, .null, .null, .null, .null, .long 0])))) H := hP
  obtain ⟨en63, he63⟩ : ∃ z, z = va_up en55 53 (.inr (5, [.ref (ad55 54), .ref (ad55 55), .ref (ad55 56), .ref (ad55 57), .ref (ad55 58), .int (xI 0), .ref (ad55 59), .ref (ad55 60), .null, .null, .int (xI 0), .null, .null, .null, .null, .null, .long 0])) := ⟨_, rfl⟩
  rw [← he63] at hP
  have ho63 : en63 53 = (.inr (5, [.ref (ad55 54), .ref (ad55 55), .ref (ad55 56), .ref (ad55 57), .ref (ad55 58), .int (xI 0), .ref (ad55 59), .ref (ad55 60), .null, .null, .int (xI 0), .null, .null, .null, .null, .null, .long 0])) := by rw [he63, va_up_self]
  have hk64 := (show en63 54 = en55 54 from by rw [he63, va_up_ne _ _ (by omega)]).trans hm57
  have hk65 := (show en63 55 = en55 55 from by rw [he63, va_up_ne _ _ (by omega)]).trans hm58
  have hk66 := (show en63 56 = en55 56 from by rw [he63, va_up_ne _ _ (by omega)]).trans hm59
  have hk67 := (show en63 57 = en55 57 from by rw [he63, va_up_ne _ _ (by omega)]).trans hm60
  have hk68 := (show en63 58 = en55 58 from by rw [he63, va_up_ne _ _ (by omega)]).trans hm61
  have hk69 := (show en63 59 = en55 59 from by rw [he63, va_up_ne _ _ (by omega)]).trans hm62
  have hk70 := (show en63 60 = en55 60 from by rw [he63, va_up_ne _ _ (by omega)]).trans he55
  have hG : xG 53 ad ad55 en en63 := by rw [he63]; exact hG.up (by omega)
  refine lv_aload_n hx hb dX5_init_63 rfl (lv_at hl 0 rfl) ?_
  refine x_sipush hx hb dX5_init_64 (by decide +kernel) ?_
  refine x_newi hx hb hts hK hP hD hS hA (k := 202) (by omega) (by show 0 + 1 + 1 + 1 + 1 + 1 + 1 + 1 + 1 ≤ 14; omega) (by show 0 + 800 + 4 + 1600 + 8 + 220 + 24 + 200 + 202 ≤ 4178; omega) dX5_init_67 (fun ad71 en71 H hg71 he71 hP hD hS => ?_)
  have hl : lv_has ls 2 [(0, .ref (ad71 53))] := by rw [(hg71 53 (by omega)).1]; exact hl
  refine x_tor1 ((hg71 53 (by omega)).1.symm) ?_
  have hm72 : en71 53 = .inr (5, [.ref (ad71 54), .ref (ad71 55), .ref (ad71 56), .ref (ad71 57), .ref (ad71 58), .int (xI 0), .ref (ad71 59), .ref (ad71 60), .null, .null, .int (xI 0), .null, .null, .null, .null, .null, .long 0]) := by rw [(hg71 54 (by omega)).1, (hg71 55 (by omega)).1, (hg71 56 (by omega)).1, (hg71 57 (by omega)).1, (hg71 58 (by omega)).1, (hg71 59 (by omega)).1, (hg71 60 (by omega)).1]; exact (hg71 53 (by omega)).2.trans ho63
  have hm73 := (hg71 54 (by omega)).2.trans hk64
  have hm74 := (hg71 55 (by omega)).2.trans hk65
  have hm75 := (hg71 56 (by omega)).2.trans hk66
  have hm76 := (hg71 57 (by omega)).2.trans hk67
  have hm77 := (hg71 58 (by omega)).2.trans hk68
  have hm78 := (hg71 59 (by omega)).2.trans hk69
  have hm79 := (hg71 60 (by omega)).2.trans hk70
  have hG : xG 53 ad ad71 en en71 := hG.tr hg71 (by omega)
  have hG1 : ad71 53 = ad 53 := (hg71 53 (by omega)).1.trans hG1
  refine x_putF (T := TX5) (N := 17) (ty := tyX5 8) hx hb hts uX5 tyX5 tyX5_ok nmX5 hown hK hP hD hS (i := 53) (by omega) hm72 rfl 8 (by decide) u_fl_RX5_31 rfl hname rfl (by decide +kernel) rfl rfl (by show 8 < 17; decide) dX5_init_69 (fun H locs hP hS => ?_)
  have hP : va_P D vwCl (xw 62 ad71 (va_up en71 53 (.inr (5, [.ref (ad71 54), .ref (ad71 55), .ref (ad71 56), .ref (ad71 57), .ref (ad71 58), .int (xI 0), .ref (ad71 59), .ref (ad71 60), .ref (ad71 61), .null, .int (xI 0), .null, .null, .null, .null, .null, .long 0])))) H := hP
  obtain ⟨en80, he80⟩ : ∃ z, z = va_up en71 53 (.inr (5, [.ref (ad71 54), .ref (ad71 55), .ref (ad71 56), .ref (ad71 57), .ref (ad71 58), .int (xI 0), .ref (ad71 59), .ref (ad71 60), .ref (ad71 61), .null, .int (xI 0), .null, .null, .null, .null, .null, .long 0])) := ⟨_, rfl⟩
  rw [← he80] at hP
  have ho80 : en80 53 = (.inr (5, [.ref (ad71 54), .ref (ad71 55), .ref (ad71 56), .ref (ad71 57), .ref (ad71 58), .int (xI 0), .ref (ad71 59), .ref (ad71 60), .ref (ad71 61), .null, .int (xI 0), .null, .null, .null, .null, .null, .long 0])) := by rw [he80, va_up_self]
  have hk81 := (show en80 54 = en71 54 from by rw [he80, va_up_ne _ _ (by omega)]).trans hm73
  have hk82 := (show en80 55 = en71 55 from by rw [he80, va_up_ne _ _ (by omega)]).trans hm74
  have hk83 := (show en80 56 = en71 56 from by rw [he80, va_up_ne _ _ (by omega)]).trans hm75
  have hk84 := (show en80 57 = en71 57 from by rw [he80, va_up_ne _ _ (by omega)]).trans hm76
  have hk85 := (show en80 58 = en71 58 from by rw [he80, va_up_ne _ _ (by omega)]).trans hm77
  have hk86 := (show en80 59 = en71 59 from by rw [he80, va_up_ne _ _ (by omega)]).trans hm78
  have hk87 := (show en80 60 = en71 60 from by rw [he80, va_up_ne _ _ (by omega)]).trans hm79
  have hk88 := (show en80 61 = en71 61 from by rw [he80, va_up_ne _ _ (by omega)]).trans he71
  have hG : xG 53 ad ad71 en en80 := by rw [he80]; exact hG.up (by omega)
  refine lv_aload_n hx hb dX5_init_72 rfl (lv_at hl 0 rfl) ?_
  refine x_sipush hx hb dX5_init_73 (by decide +kernel) ?_
  refine x_newi hx hb hts hK hP hD hS hA (k := 202) (by omega) (by show 0 + 1 + 1 + 1 + 1 + 1 + 1 + 1 + 1 + 1 ≤ 14; omega) (by show 0 + 800 + 4 + 1600 + 8 + 220 + 24 + 200 + 202 + 202 ≤ 4178; omega) dX5_init_76 (fun ad89 en89 H hg89 he89 hP hD hS => ?_)
  have hl : lv_has ls 2 [(0, .ref (ad89 53))] := by rw [(hg89 53 (by omega)).1]; exact hl
  refine x_tor1 ((hg89 53 (by omega)).1.symm) ?_
  have hm90 : en89 53 = .inr (5, [.ref (ad89 54), .ref (ad89 55), .ref (ad89 56), .ref (ad89 57), .ref (ad89 58), .int (xI 0), .ref (ad89 59), .ref (ad89 60), .ref (ad89 61), .null, .int (xI 0), .null, .null, .null, .null, .null, .long 0]) := by rw [(hg89 54 (by omega)).1, (hg89 55 (by omega)).1, (hg89 56 (by omega)).1, (hg89 57 (by omega)).1, (hg89 58 (by omega)).1, (hg89 59 (by omega)).1, (hg89 60 (by omega)).1, (hg89 61 (by omega)).1]; exact (hg89 53 (by omega)).2.trans ho80
  have hm91 := (hg89 54 (by omega)).2.trans hk81
  have hm92 := (hg89 55 (by omega)).2.trans hk82
  have hm93 := (hg89 56 (by omega)).2.trans hk83
  have hm94 := (hg89 57 (by omega)).2.trans hk84
  have hm95 := (hg89 58 (by omega)).2.trans hk85
  have hm96 := (hg89 59 (by omega)).2.trans hk86
  have hm97 := (hg89 60 (by omega)).2.trans hk87
  have hm98 := (hg89 61 (by omega)).2.trans hk88
  have hG : xG 53 ad ad89 en en89 := hG.tr hg89 (by omega)
  have hG1 : ad89 53 = ad 53 := (hg89 53 (by omega)).1.trans hG1
  refine x_putF (T := TX5) (N := 17) (ty := tyX5 9) hx hb hts uX5 tyX5 tyX5_ok nmX5 hown hK hP hD hS (i := 53) (by omega) hm90 rfl 9 (by decide) u_fl_RX5_34 rfl hname rfl (by decide +kernel) rfl rfl (by show 9 < 17; decide) dX5_init_78 (fun H locs hP hS => ?_)
  have hP : va_P D vwCl (xw 63 ad89 (va_up en89 53 (.inr (5, [.ref (ad89 54), .ref (ad89 55), .ref (ad89 56), .ref (ad89 57), .ref (ad89 58), .int (xI 0), .ref (ad89 59), .ref (ad89 60), .ref (ad89 61), .ref (ad89 62), .int (xI 0), .null, .null, .null, .null, .null, .long 0])))) H := hP
  obtain ⟨en99, he99⟩ : ∃ z, z = va_up en89 53 (.inr (5, [.ref (ad89 54), .ref (ad89 55), .ref (ad89 56), .ref (ad89 57), .ref (ad89 58), .int (xI 0), .ref (ad89 59), .ref (ad89 60), .ref (ad89 61), .ref (ad89 62), .int (xI 0), .null, .null, .null, .null, .null, .long 0])) := ⟨_, rfl⟩
  rw [← he99] at hP
  have ho99 : en99 53 = (.inr (5, [.ref (ad89 54), .ref (ad89 55), .ref (ad89 56), .ref (ad89 57), .ref (ad89 58), .int (xI 0), .ref (ad89 59), .ref (ad89 60), .ref (ad89 61), .ref (ad89 62), .int (xI 0), .null, .null, .null, .null, .null, .long 0])) := by rw [he99, va_up_self]
  have hk100 := (show en99 54 = en89 54 from by rw [he99, va_up_ne _ _ (by omega)]).trans hm91
  have hk101 := (show en99 55 = en89 55 from by rw [he99, va_up_ne _ _ (by omega)]).trans hm92
  have hk102 := (show en99 56 = en89 56 from by rw [he99, va_up_ne _ _ (by omega)]).trans hm93
  have hk103 := (show en99 57 = en89 57 from by rw [he99, va_up_ne _ _ (by omega)]).trans hm94
  have hk104 := (show en99 58 = en89 58 from by rw [he99, va_up_ne _ _ (by omega)]).trans hm95
  have hk105 := (show en99 59 = en89 59 from by rw [he99, va_up_ne _ _ (by omega)]).trans hm96
  have hk106 := (show en99 60 = en89 60 from by rw [he99, va_up_ne _ _ (by omega)]).trans hm97
  have hk107 := (show en99 61 = en89 61 from by rw [he99, va_up_ne _ _ (by omega)]).trans hm98
  have hk108 := (show en99 62 = en89 62 from by rw [he99, va_up_ne _ _ (by omega)]).trans he89
  have hG : xG 53 ad ad89 en en99 := by rw [he99]; exact hG.up (by omega)
  refine lv_aload_n hx hb dX5_init_81 rfl (lv_at hl 0 rfl) ?_
  refine x_sipush hx hb dX5_init_82 (by decide +kernel) ?_
  refine x_newi hx hb hts hK hP hD hS hA (k := 400) (by omega) (by show 0 + 1 + 1 + 1 + 1 + 1 + 1 + 1 + 1 + 1 + 1 ≤ 14; omega) (by show 0 + 800 + 4 + 1600 + 8 + 220 + 24 + 200 + 202 + 202 + 400 ≤ 4178; omega) dX5_init_85 (fun ad109 en109 H hg109 he109 hP hD hS => ?_)
  have hl : lv_has ls 2 [(0, .ref (ad109 53))] := by rw [(hg109 53 (by omega)).1]; exact hl
  refine x_tor1 ((hg109 53 (by omega)).1.symm) ?_
  have hm110 : en109 53 = .inr (5, [.ref (ad109 54), .ref (ad109 55), .ref (ad109 56), .ref (ad109 57), .ref (ad109 58), .int (xI 0), .ref (ad109 59), .ref (ad109 60), .ref (ad109 61), .ref (ad109 62), .int (xI 0), .null, .null, .null, .null, .null, .long 0]) := by rw [(hg109 54 (by omega)).1, (hg109 55 (by omega)).1, (hg109 56 (by omega)).1, (hg109 57 (by omega)).1, (hg109 58 (by omega)).1, (hg109 59 (by omega)).1, (hg109 60 (by omega)).1, (hg109 61 (by omega)).1, (hg109 62 (by omega)).1]; exact (hg109 53 (by omega)).2.trans ho99
  have hm111 := (hg109 54 (by omega)).2.trans hk100
  have hm112 := (hg109 55 (by omega)).2.trans hk101
  have hm113 := (hg109 56 (by omega)).2.trans hk102
  have hm114 := (hg109 57 (by omega)).2.trans hk103
  have hm115 := (hg109 58 (by omega)).2.trans hk104
  have hm116 := (hg109 59 (by omega)).2.trans hk105
  have hm117 := (hg109 60 (by omega)).2.trans hk106
  have hm118 := (hg109 61 (by omega)).2.trans hk107
  have hm119 := (hg109 62 (by omega)).2.trans hk108
  have hG : xG 53 ad ad109 en en109 := hG.tr hg109 (by omega)
  have hG1 : ad109 53 = ad 53 := (hg109 53 (by omega)).1.trans hG1
  refine x_putF (T := TX5) (N := 17) (ty := tyX5 11) hx hb hts uX5 tyX5 tyX5_ok nmX5 hown hK hP hD hS (i := 53) (by omega) hm110 rfl 11 (by decide) u_fl_RX5_37 rfl hname rfl (by decide +kernel) rfl rfl (by show 11 < 17; decide) dX5_init_87 (fun H locs hP hS => ?_)
  have hP : va_P D vwCl (xw 64 ad109 (va_up en109 53 (.inr (5, [.ref (ad109 54), .ref (ad109 55), .ref (ad109 56), .ref (ad109 57), .ref (ad109 58), .int (xI 0), .ref (ad109 59), .ref (ad109 60), .ref (ad109 61), .ref (ad109 62), .int (xI 0), .ref (ad109 63), .null, .null, .null, .null, .long 0])))) H := hP
  obtain ⟨en120, he120⟩ : ∃ z, z = va_up en109 53 (.inr (5, [.ref (ad109 54), .ref (ad109 55), .ref (ad109 56), .ref (ad109 57), .ref (ad109 58), .int (xI 0), .ref (ad109 59), .ref (ad109 60), .ref (ad109 61), .ref (ad109 62), .int (xI 0), .ref (ad109 63), .null, .null, .null, .null, .long 0])) := ⟨_, rfl⟩
  rw [← he120] at hP
  have ho120 : en120 53 = (.inr (5, [.ref (ad109 54), .ref (ad109 55), .ref (ad109 56), .ref (ad109 57), .ref (ad109 58), .int (xI 0), .ref (ad109 59), .ref (ad109 60), .ref (ad109 61), .ref (ad109 62), .int (xI 0), .ref (ad109 63), .null, .null, .null, .null, .long 0])) := by rw [he120, va_up_self]
  have hk121 := (show en120 54 = en109 54 from by rw [he120, va_up_ne _ _ (by omega)]).trans hm111
  have hk122 := (show en120 55 = en109 55 from by rw [he120, va_up_ne _ _ (by omega)]).trans hm112
  have hk123 := (show en120 56 = en109 56 from by rw [he120, va_up_ne _ _ (by omega)]).trans hm113
  have hk124 := (show en120 57 = en109 57 from by rw [he120, va_up_ne _ _ (by omega)]).trans hm114
  have hk125 := (show en120 58 = en109 58 from by rw [he120, va_up_ne _ _ (by omega)]).trans hm115
  have hk126 := (show en120 59 = en109 59 from by rw [he120, va_up_ne _ _ (by omega)]).trans hm116
  have hk127 := (show en120 60 = en109 60 from by rw [he120, va_up_ne _ _ (by omega)]).trans hm117
  have hk128 := (show en120 61 = en109 61 from by rw [he120, va_up_ne _ _ (by omega)]).trans hm118
  have hk129 := (show en120 62 = en109 62 from by rw [he120, va_up_ne _ _ (by omega)]).trans hm119
  have hk130 := (show en120 63 = en109 63 from by rw [he120, va_up_ne _ _ (by omega)]).trans he109
  have hG : xG 53 ad ad109 en en120 := by rw [he120]; exact hG.up (by omega)
  refine lv_aload_n hx hb dX5_init_90 rfl (lv_at hl 0 rfl) ?_
  refine x_iconst hx hb dX5_init_91 ?_
  refine x_newi hx hb hts hK hP hD hS hA (k := 2) (by omega) (by show 0 + 1 + 1 + 1 + 1 + 1 + 1 + 1 + 1 + 1 + 1 + 1 ≤ 14; omega) (by show 0 + 800 + 4 + 1600 + 8 + 220 + 24 + 200 + 202 + 202 + 400 + 2 ≤ 4178; omega) dX5_init_92 (fun ad131 en131 H hg131 he131 hP hD hS => ?_)
  have hl : lv_has ls 2 [(0, .ref (ad131 53))] := by rw [(hg131 53 (by omega)).1]; exact hl
  refine x_tor1 ((hg131 53 (by omega)).1.symm) ?_
  have hm132 : en131 53 = .inr (5, [.ref (ad131 54), .ref (ad131 55), .ref (ad131 56), .ref (ad131 57), .ref (ad131 58), .int (xI 0), .ref (ad131 59), .ref (ad131 60), .ref (ad131 61), .ref (ad131 62), .int (xI 0), .ref (ad131 63), .null, .null, .null, .null, .long 0]) := by rw [(hg131 54 (by omega)).1, (hg131 55 (by omega)).1, (hg131 56 (by omega)).1, (hg131 57 (by omega)).1, (hg131 58 (by omega)).1, (hg131 59 (by omega)).1, (hg131 60 (by omega)).1, (hg131 61 (by omega)).1, (hg131 62 (by omega)).1, (hg131 63 (by omega)).1]; exact (hg131 53 (by omega)).2.trans ho120
  have hm133 := (hg131 54 (by omega)).2.trans hk121
  have hm134 := (hg131 55 (by omega)).2.trans hk122
  have hm135 := (hg131 56 (by omega)).2.trans hk123
  have hm136 := (hg131 57 (by omega)).2.trans hk124
  have hm137 := (hg131 58 (by omega)).2.trans hk125
  have hm138 := (hg131 59 (by omega)).2.trans hk126
  have hm139 := (hg131 60 (by omega)).2.trans hk127
  have hm140 := (hg131 61 (by omega)).2.trans hk128
  have hm141 := (hg131 62 (by omega)).2.trans hk129
  have hm142 := (hg131 63 (by omega)).2.trans hk130
  have hG : xG 53 ad ad131 en en131 := hG.tr hg131 (by omega)
  have hG1 : ad131 53 = ad 53 := (hg131 53 (by omega)).1.trans hG1
  refine x_putF (T := TX5) (N := 17) (ty := tyX5 12) hx hb hts uX5 tyX5 tyX5_ok nmX5 hown hK hP hD hS (i := 53) (by omega) hm132 rfl 12 (by decide) u_fl_RX5_40 rfl hname rfl (by decide +kernel) rfl rfl (by show 12 < 17; decide) dX5_init_94 (fun H locs hP hS => ?_)
  have hP : va_P D vwCl (xw 65 ad131 (va_up en131 53 (.inr (5, [.ref (ad131 54), .ref (ad131 55), .ref (ad131 56), .ref (ad131 57), .ref (ad131 58), .int (xI 0), .ref (ad131 59), .ref (ad131 60), .ref (ad131 61), .ref (ad131 62), .int (xI 0), .ref (ad131 63), .ref (ad131 64), .null, .null, .null, .long 0])))) H := hP
  obtain ⟨en143, he143⟩ : ∃ z, z = va_up en131 53 (.inr (5, [.ref (ad131 54), .ref (ad131 55), .ref (ad131 56), .ref (ad131 57), .ref (ad131 58), .int (xI 0), .ref (ad131 59), .ref (ad131 60), .ref (ad131 61), .ref (ad131 62), .int (xI 0), .ref (ad131 63), .ref (ad131 64), .null, .null, .null, .long 0])) := ⟨_, rfl⟩
  rw [← he143] at hP
  have ho143 : en143 53 = (.inr (5, [.ref (ad131 54), .ref (ad131 55), .ref (ad131 56), .ref (ad131 57), .ref (ad131 58), .int (xI 0), .ref (ad131 59), .ref (ad131 60), .ref (ad131 61), .ref (ad131 62), .int (xI 0), .ref (ad131 63), .ref (ad131 64), .null, .null, .null, .long 0])) := by rw [he143, va_up_self]
  have hk144 := (show en143 54 = en131 54 from by rw [he143, va_up_ne _ _ (by omega)]).trans hm133
  have hk145 := (show en143 55 = en131 55 from by rw [he143, va_up_ne _ _ (by omega)]).trans hm134
  have hk146 := (show en143 56 = en131 56 from by rw [he143, va_up_ne _ _ (by omega)]).trans hm135
  have hk147 := (show en143 57 = en131 57 from by rw [he143, va_up_ne _ _ (by omega)]).trans hm136
  have hk148 := (show en143 58 = en131 58 from by rw [he143, va_up_ne _ _ (by omega)]).trans hm137
  have hk149 := (show en143 59 = en131 59 from by rw [he143, va_up_ne _ _ (by omega)]).trans hm138
  have hk150 := (show en143 60 = en131 60 from by rw [he143, va_up_ne _ _ (by omega)]).trans hm139
  have hk151 := (show en143 61 = en131 61 from by rw [he143, va_up_ne _ _ (by omega)]).trans hm140
  have hk152 := (show en143 62 = en131 62 from by rw [he143, va_up_ne _ _ (by omega)]).trans hm141
  have hk153 := (show en143 63 = en131 63 from by rw [he143, va_up_ne _ _ (by omega)]).trans hm142
  have hk154 := (show en143 64 = en131 64 from by rw [he143, va_up_ne _ _ (by omega)]).trans he131
  have hG : xG 53 ad ad131 en en143 := by rw [he143]; exact hG.up (by omega)
  refine lv_aload_n hx hb dX5_init_97 rfl (lv_at hl 0 rfl) ?_
  refine x_sipush hx hb dX5_init_98 (by decide +kernel) ?_
  refine x_newi hx hb hts hK hP hD hS hA (k := 512) (by omega) (by show 0 + 1 + 1 + 1 + 1 + 1 + 1 + 1 + 1 + 1 + 1 + 1 + 1 ≤ 14; omega) (by show 0 + 800 + 4 + 1600 + 8 + 220 + 24 + 200 + 202 + 202 + 400 + 2 + 512 ≤ 4178; omega) dX5_init_101 (fun ad155 en155 H hg155 he155 hP hD hS => ?_)
  have hl : lv_has ls 2 [(0, .ref (ad155 53))] := by rw [(hg155 53 (by omega)).1]; exact hl
  refine x_tor1 ((hg155 53 (by omega)).1.symm) ?_
  have hm156 : en155 53 = .inr (5, [.ref (ad155 54), .ref (ad155 55), .ref (ad155 56), .ref (ad155 57), .ref (ad155 58), .int (xI 0), .ref (ad155 59), .ref (ad155 60), .ref (ad155 61), .ref (ad155 62), .int (xI 0), .ref (ad155 63), .ref (ad155 64), .null, .null, .null, .long 0]) := by rw [(hg155 54 (by omega)).1, (hg155 55 (by omega)).1, (hg155 56 (by omega)).1, (hg155 57 (by omega)).1, (hg155 58 (by omega)).1, (hg155 59 (by omega)).1, (hg155 60 (by omega)).1, (hg155 61 (by omega)).1, (hg155 62 (by omega)).1, (hg155 63 (by omega)).1, (hg155 64 (by omega)).1]; exact (hg155 53 (by omega)).2.trans ho143
  have hm157 := (hg155 54 (by omega)).2.trans hk144
  have hm158 := (hg155 55 (by omega)).2.trans hk145
  have hm159 := (hg155 56 (by omega)).2.trans hk146
  have hm160 := (hg155 57 (by omega)).2.trans hk147
  have hm161 := (hg155 58 (by omega)).2.trans hk148
  have hm162 := (hg155 59 (by omega)).2.trans hk149
  have hm163 := (hg155 60 (by omega)).2.trans hk150
  have hm164 := (hg155 61 (by omega)).2.trans hk151
  have hm165 := (hg155 62 (by omega)).2.trans hk152
  have hm166 := (hg155 63 (by omega)).2.trans hk153
  have hm167 := (hg155 64 (by omega)).2.trans hk154
  have hG : xG 53 ad ad155 en en155 := hG.tr hg155 (by omega)
  have hG1 : ad155 53 = ad 53 := (hg155 53 (by omega)).1.trans hG1
  refine x_putF (T := TX5) (N := 17) (ty := tyX5 13) hx hb hts uX5 tyX5 tyX5_ok nmX5 hown hK hP hD hS (i := 53) (by omega) hm156 rfl 13 (by decide) u_fl_RX5_43 rfl hname rfl (by decide +kernel) rfl rfl (by show 13 < 17; decide) dX5_init_103 (fun H locs hP hS => ?_)
  have hP : va_P D vwCl (xw 66 ad155 (va_up en155 53 (.inr (5, [.ref (ad155 54), .ref (ad155 55), .ref (ad155 56), .ref (ad155 57), .ref (ad155 58), .int (xI 0), .ref (ad155 59), .ref (ad155 60), .ref (ad155 61), .ref (ad155 62), .int (xI 0), .ref (ad155 63), .ref (ad155 64), .ref (ad155 65), .null, .null, .long 0])))) H := hP
  obtain ⟨en168, he168⟩ : ∃ z, z = va_up en155 53 (.inr (5, [.ref (ad155 54), .ref (ad155 55), .ref (ad155 56), .ref (ad155 57), .ref (ad155 58), .int (xI 0), .ref (ad155 59), .ref (ad155 60), .ref (ad155 61), .ref (ad155 62), .int (xI 0), .ref (ad155 63), .ref (ad155 64), .ref (ad155 65), .null, .null, .long 0])) := ⟨_, rfl⟩
  rw [← he168] at hP
  have ho168 : en168 53 = (.inr (5, [.ref (ad155 54), .ref (ad155 55), .ref (ad155 56), .ref (ad155 57), .ref (ad155 58), .int (xI 0), .ref (ad155 59), .ref (ad155 60), .ref (ad155 61), .ref (ad155 62), .int (xI 0), .ref (ad155 63), .ref (ad155 64), .ref (ad155 65), .null, .null, .long 0])) := by rw [he168, va_up_self]
  have hk169 := (show en168 54 = en155 54 from by rw [he168, va_up_ne _ _ (by omega)]).trans hm157
  have hk170 := (show en168 55 = en155 55 from by rw [he168, va_up_ne _ _ (by omega)]).trans hm158
  have hk171 := (show en168 56 = en155 56 from by rw [he168, va_up_ne _ _ (by omega)]).trans hm159
  have hk172 := (show en168 57 = en155 57 from by rw [he168, va_up_ne _ _ (by omega)]).trans hm160
  have hk173 := (show en168 58 = en155 58 from by rw [he168, va_up_ne _ _ (by omega)]).trans hm161
  have hk174 := (show en168 59 = en155 59 from by rw [he168, va_up_ne _ _ (by omega)]).trans hm162
  have hk175 := (show en168 60 = en155 60 from by rw [he168, va_up_ne _ _ (by omega)]).trans hm163
  have hk176 := (show en168 61 = en155 61 from by rw [he168, va_up_ne _ _ (by omega)]).trans hm164
  have hk177 := (show en168 62 = en155 62 from by rw [he168, va_up_ne _ _ (by omega)]).trans hm165
  have hk178 := (show en168 63 = en155 63 from by rw [he168, va_up_ne _ _ (by omega)]).trans hm166
  have hk179 := (show en168 64 = en155 64 from by rw [he168, va_up_ne _ _ (by omega)]).trans hm167
  have hk180 := (show en168 65 = en155 65 from by rw [he168, va_up_ne _ _ (by omega)]).trans he155
  have hG : xG 53 ad ad155 en en168 := by rw [he168]; exact hG.up (by omega)
  refine lv_aload_n hx hb dX5_init_106 rfl (lv_at hl 0 rfl) ?_
  refine x_iconst hx hb dX5_init_107 ?_
  refine x_newi hx hb hts hK hP hD hS hA (k := 2) (by omega) (by show 0 + 1 + 1 + 1 + 1 + 1 + 1 + 1 + 1 + 1 + 1 + 1 + 1 + 1 ≤ 14; omega) (by show 0 + 800 + 4 + 1600 + 8 + 220 + 24 + 200 + 202 + 202 + 400 + 2 + 512 + 2 ≤ 4178; omega) dX5_init_108 (fun ad181 en181 H hg181 he181 hP hD hS => ?_)
  have hl : lv_has ls 2 [(0, .ref (ad181 53))] := by rw [(hg181 53 (by omega)).1]; exact hl
  refine x_tor1 ((hg181 53 (by omega)).1.symm) ?_
  have hm182 : en181 53 = .inr (5, [.ref (ad181 54), .ref (ad181 55), .ref (ad181 56), .ref (ad181 57), .ref (ad181 58), .int (xI 0), .ref (ad181 59), .ref (ad181 60), .ref (ad181 61), .ref (ad181 62), .int (xI 0), .ref (ad181 63), .ref (ad181 64), .ref (ad181 65), .null, .null, .long 0]) := by rw [(hg181 54 (by omega)).1, (hg181 55 (by omega)).1, (hg181 56 (by omega)).1, (hg181 57 (by omega)).1, (hg181 58 (by omega)).1, (hg181 59 (by omega)).1, (hg181 60 (by omega)).1, (hg181 61 (by omega)).1, (hg181 62 (by omega)).1, (hg181 63 (by omega)).1, (hg181 64 (by omega)).1, (hg181 65 (by omega)).1]; exact (hg181 53 (by omega)).2.trans ho168
  have hm183 := (hg181 54 (by omega)).2.trans hk169
  have hm184 := (hg181 55 (by omega)).2.trans hk170
  have hm185 := (hg181 56 (by omega)).2.trans hk171
  have hm186 := (hg181 57 (by omega)).2.trans hk172
  have hm187 := (hg181 58 (by omega)).2.trans hk173
  have hm188 := (hg181 59 (by omega)).2.trans hk174
  have hm189 := (hg181 60 (by omega)).2.trans hk175
  have hm190 := (hg181 61 (by omega)).2.trans hk176
  have hm191 := (hg181 62 (by omega)).2.trans hk177
  have hm192 := (hg181 63 (by omega)).2.trans hk178
  have hm193 := (hg181 64 (by omega)).2.trans hk179
  have hm194 := (hg181 65 (by omega)).2.trans hk180
  have hG : xG 53 ad ad181 en en181 := hG.tr hg181 (by omega)
  have hG1 : ad181 53 = ad 53 := (hg181 53 (by omega)).1.trans hG1
  refine x_putF (T := TX5) (N := 17) (ty := tyX5 14) hx hb hts uX5 tyX5 tyX5_ok nmX5 hown hK hP hD hS (i := 53) (by omega) hm182 rfl 14 (by decide) u_fl_RX5_46 rfl hname rfl (by decide +kernel) rfl rfl (by show 14 < 17; decide) dX5_init_110 (fun H locs hP hS => ?_)
  have hP : va_P D vwCl (xw 67 ad181 (va_up en181 53 (.inr (5, [.ref (ad181 54), .ref (ad181 55), .ref (ad181 56), .ref (ad181 57), .ref (ad181 58), .int (xI 0), .ref (ad181 59), .ref (ad181 60), .ref (ad181 61), .ref (ad181 62), .int (xI 0), .ref (ad181 63), .ref (ad181 64), .ref (ad181 65), .ref (ad181 66), .null, .long 0])))) H := hP
  obtain ⟨en195, he195⟩ : ∃ z, z = va_up en181 53 (.inr (5, [.ref (ad181 54), .ref (ad181 55), .ref (ad181 56), .ref (ad181 57), .ref (ad181 58), .int (xI 0), .ref (ad181 59), .ref (ad181 60), .ref (ad181 61), .ref (ad181 62), .int (xI 0), .ref (ad181 63), .ref (ad181 64), .ref (ad181 65), .ref (ad181 66), .null, .long 0])) := ⟨_, rfl⟩
  rw [← he195] at hP
  have ho195 : en195 53 = (.inr (5, [.ref (ad181 54), .ref (ad181 55), .ref (ad181 56), .ref (ad181 57), .ref (ad181 58), .int (xI 0), .ref (ad181 59), .ref (ad181 60), .ref (ad181 61), .ref (ad181 62), .int (xI 0), .ref (ad181 63), .ref (ad181 64), .ref (ad181 65), .ref (ad181 66), .null, .long 0])) := by rw [he195, va_up_self]
  have hk196 := (show en195 54 = en181 54 from by rw [he195, va_up_ne _ _ (by omega)]).trans hm183
  have hk197 := (show en195 55 = en181 55 from by rw [he195, va_up_ne _ _ (by omega)]).trans hm184
  have hk198 := (show en195 56 = en181 56 from by rw [he195, va_up_ne _ _ (by omega)]).trans hm185
  have hk199 := (show en195 57 = en181 57 from by rw [he195, va_up_ne _ _ (by omega)]).trans hm186
  have hk200 := (show en195 58 = en181 58 from by rw [he195, va_up_ne _ _ (by omega)]).trans hm187
  have hk201 := (show en195 59 = en181 59 from by rw [he195, va_up_ne _ _ (by omega)]).trans hm188
  have hk202 := (show en195 60 = en181 60 from by rw [he195, va_up_ne _ _ (by omega)]).trans hm189
  have hk203 := (show en195 61 = en181 61 from by rw [he195, va_up_ne _ _ (by omega)]).trans hm190
  have hk204 := (show en195 62 = en181 62 from by rw [he195, va_up_ne _ _ (by omega)]).trans hm191
  have hk205 := (show en195 63 = en181 63 from by rw [he195, va_up_ne _ _ (by omega)]).trans hm192
  have hk206 := (show en195 64 = en181 64 from by rw [he195, va_up_ne _ _ (by omega)]).trans hm193
  have hk207 := (show en195 65 = en181 65 from by rw [he195, va_up_ne _ _ (by omega)]).trans hm194
  have hk208 := (show en195 66 = en181 66 from by rw [he195, va_up_ne _ _ (by omega)]).trans he181
  have hG : xG 53 ad ad181 en en195 := by rw [he195]; exact hG.up (by omega)
  refine lv_aload_n hx hb dX5_init_113 rfl (lv_at hl 0 rfl) ?_
  refine x_iconst hx hb dX5_init_114 ?_
  refine x_newi hx hb hts hK hP hD hS hA (k := 2) (by omega) (by show 0 + 1 + 1 + 1 + 1 + 1 + 1 + 1 + 1 + 1 + 1 + 1 + 1 + 1 + 1 ≤ 14; omega) (by show 0 + 800 + 4 + 1600 + 8 + 220 + 24 + 200 + 202 + 202 + 400 + 2 + 512 + 2 + 2 ≤ 4178; omega) dX5_init_115 (fun ad209 en209 H hg209 he209 hP hD hS => ?_)
  have hl : lv_has ls 2 [(0, .ref (ad209 53))] := by rw [(hg209 53 (by omega)).1]; exact hl
  refine x_tor1 ((hg209 53 (by omega)).1.symm) ?_
  have hm210 : en209 53 = .inr (5, [.ref (ad209 54), .ref (ad209 55), .ref (ad209 56), .ref (ad209 57), .ref (ad209 58), .int (xI 0), .ref (ad209 59), .ref (ad209 60), .ref (ad209 61), .ref (ad209 62), .int (xI 0), .ref (ad209 63), .ref (ad209 64), .ref (ad209 65), .ref (ad209 66), .null, .long 0]) := by rw [(hg209 54 (by omega)).1, (hg209 55 (by omega)).1, (hg209 56 (by omega)).1, (hg209 57 (by omega)).1, (hg209 58 (by omega)).1, (hg209 59 (by omega)).1, (hg209 60 (by omega)).1, (hg209 61 (by omega)).1, (hg209 62 (by omega)).1, (hg209 63 (by omega)).1, (hg209 64 (by omega)).1, (hg209 65 (by omega)).1, (hg209 66 (by omega)).1]; exact (hg209 53 (by omega)).2.trans ho195
  have hm211 := (hg209 54 (by omega)).2.trans hk196
  have hm212 := (hg209 55 (by omega)).2.trans hk197
  have hm213 := (hg209 56 (by omega)).2.trans hk198
  have hm214 := (hg209 57 (by omega)).2.trans hk199
  have hm215 := (hg209 58 (by omega)).2.trans hk200
  have hm216 := (hg209 59 (by omega)).2.trans hk201
  have hm217 := (hg209 60 (by omega)).2.trans hk202
  have hm218 := (hg209 61 (by omega)).2.trans hk203
  have hm219 := (hg209 62 (by omega)).2.trans hk204
  have hm220 := (hg209 63 (by omega)).2.trans hk205
  have hm221 := (hg209 64 (by omega)).2.trans hk206
  have hm222 := (hg209 65 (by omega)).2.trans hk207
  have hm223 := (hg209 66 (by omega)).2.trans hk208
  have hG : xG 53 ad ad209 en en209 := hG.tr hg209 (by omega)
  have hG1 : ad209 53 = ad 53 := (hg209 53 (by omega)).1.trans hG1
  refine x_putF (T := TX5) (N := 17) (ty := tyX5 15) hx hb hts uX5 tyX5 tyX5_ok nmX5 hown hK hP hD hS (i := 53) (by omega) hm210 rfl 15 (by decide) u_fl_RX5_49 rfl hname rfl (by decide +kernel) rfl rfl (by show 15 < 17; decide) dX5_init_117 (fun H locs hP hS => ?_)
  have hP : va_P D vwCl (xw 68 ad209 (va_up en209 53 (.inr (5, [.ref (ad209 54), .ref (ad209 55), .ref (ad209 56), .ref (ad209 57), .ref (ad209 58), .int (xI 0), .ref (ad209 59), .ref (ad209 60), .ref (ad209 61), .ref (ad209 62), .int (xI 0), .ref (ad209 63), .ref (ad209 64), .ref (ad209 65), .ref (ad209 66), .ref (ad209 67), .long 0])))) H := hP
  obtain ⟨en224, he224⟩ : ∃ z, z = va_up en209 53 (.inr (5, [.ref (ad209 54), .ref (ad209 55), .ref (ad209 56), .ref (ad209 57), .ref (ad209 58), .int (xI 0), .ref (ad209 59), .ref (ad209 60), .ref (ad209 61), .ref (ad209 62), .int (xI 0), .ref (ad209 63), .ref (ad209 64), .ref (ad209 65), .ref (ad209 66), .ref (ad209 67), .long 0])) := ⟨_, rfl⟩
  rw [← he224] at hP
  have ho224 : en224 53 = (.inr (5, [.ref (ad209 54), .ref (ad209 55), .ref (ad209 56), .ref (ad209 57), .ref (ad209 58), .int (xI 0), .ref (ad209 59), .ref (ad209 60), .ref (ad209 61), .ref (ad209 62), .int (xI 0), .ref (ad209 63), .ref (ad209 64), .ref (ad209 65), .ref (ad209 66), .ref (ad209 67), .long 0])) := by rw [he224, va_up_self]
  have hk225 := (show en224 54 = en209 54 from by rw [he224, va_up_ne _ _ (by omega)]).trans hm211
  have hk226 := (show en224 55 = en209 55 from by rw [he224, va_up_ne _ _ (by omega)]).trans hm212
  have hk227 := (show en224 56 = en209 56 from by rw [he224, va_up_ne _ _ (by omega)]).trans hm213
  have hk228 := (show en224 57 = en209 57 from by rw [he224, va_up_ne _ _ (by omega)]).trans hm214
  have hk229 := (show en224 58 = en209 58 from by rw [he224, va_up_ne _ _ (by omega)]).trans hm215
  have hk230 := (show en224 59 = en209 59 from by rw [he224, va_up_ne _ _ (by omega)]).trans hm216
  have hk231 := (show en224 60 = en209 60 from by rw [he224, va_up_ne _ _ (by omega)]).trans hm217
  have hk232 := (show en224 61 = en209 61 from by rw [he224, va_up_ne _ _ (by omega)]).trans hm218
  have hk233 := (show en224 62 = en209 62 from by rw [he224, va_up_ne _ _ (by omega)]).trans hm219
  have hk234 := (show en224 63 = en209 63 from by rw [he224, va_up_ne _ _ (by omega)]).trans hm220
  have hk235 := (show en224 64 = en209 64 from by rw [he224, va_up_ne _ _ (by omega)]).trans hm221
  have hk236 := (show en224 65 = en209 65 from by rw [he224, va_up_ne _ _ (by omega)]).trans hm222
  have hk237 := (show en224 66 = en209 66 from by rw [he224, va_up_ne _ _ (by omega)]).trans hm223
  have hk238 := (show en224 67 = en209 67 from by rw [he224, va_up_ne _ _ (by omega)]).trans he209
  have hG : xG 53 ad ad209 en en224 := by rw [he224]; exact hG.up (by omega)
  have hM : MW cA ad209 en224 (mO (fun _ => 0) (fun _ => 0) (fun _ => 0) (fun _ => 0) (fun _ => 0) 0 (fun _ => 0) (fun _ => 0) (fun _ => 0) (fun _ => 0) 0 (fun _ => 0) (fun _ => 0) (fun _ => 0) (fun _ => 0) (fun _ => 0) 0) := ⟨ho224, hk225.trans (show _ = _ from congrArg (fun g => (Sum.inl (cA 0, 800, Sum.inl g) : va_E)) xz_arr), hk226.trans (show _ = _ from congrArg (fun g => (Sum.inl (cA 0, 4, Sum.inl g) : va_E)) xz_arr), hk227.trans (show _ = _ from congrArg (fun g => (Sum.inl (cA 0, 1600, Sum.inl g) : va_E)) xz_arr), hk228.trans (show _ = _ from congrArg (fun g => (Sum.inl (cA 0, 8, Sum.inl g) : va_E)) xz_arr), hk229.trans (show _ = _ from congrArg (fun g => (Sum.inl (cA 0, 220, Sum.inl g) : va_E)) xz_arr), hk230.trans (show _ = _ from congrArg (fun g => (Sum.inl (cA 0, 24, Sum.inl g) : va_E)) xz_arr), hk231.trans (show _ = _ from congrArg (fun g => (Sum.inl (cA 0, 200, Sum.inl g) : va_E)) xz_arr), hk232.trans (show _ = _ from congrArg (fun g => (Sum.inl (cA 0, 202, Sum.inl g) : va_E)) xz_arr), hk233.trans (show _ = _ from congrArg (fun g => (Sum.inl (cA 0, 202, Sum.inl g) : va_E)) xz_arr), hk234.trans (show _ = _ from congrArg (fun g => (Sum.inl (cA 0, 400, Sum.inl g) : va_E)) xz_arr), hk235.trans (show _ = _ from congrArg (fun g => (Sum.inl (cA 0, 2, Sum.inl g) : va_E)) xz_arr), hk236.trans (show _ = _ from congrArg (fun g => (Sum.inl (cA 0, 512, Sum.inl g) : va_E)) xz_arr), hk237.trans (show _ = _ from congrArg (fun g => (Sum.inl (cA 0, 2, Sum.inl g) : va_E)) xz_arr), hk238.trans (show _ = _ from congrArg (fun g => (Sum.inl (cA 0, 2, Sum.inl g) : va_E)) xz_arr)⟩
  refine x_iconst hx hb dX5_init_120 ?_
  refine lv_istore_n (lv' := [(1, .int (xI 0)), (0, .ref (ad209 53))]) hx hb dX5_init_121 rfl hl (by decide) rfl (fun ls hl => ?_)
  have L122 : ∀ (nn : Nat) (K : Nat) (F : Nat → Int) (ew122 : Nat → va_E) (H : Heap) (locs : List Loc), (K ≤ 8) → (∀ k : Nat, k < K → F k = -1) → (8 - K) < nn → (MW cA ad209 ew122 (mO (fun _ => 0) (fun _ => 0) (fun _ => 0) F (fun _ => 0) 0 (fun _ => 0) (fun _ => 0) (fun _ => 0) (fun _ => 0) 0 (fun _ => 0) (fun _ => 0) (fun _ => 0) (fun _ => 0) (fun _ => 0) 0)) → (xG 53 ad ad209 en ew122) → va_P D vwCl (xw 68 ad209 ew122) H → va_S (xA 54 ad sz) s.heap H locs → ∀ ls : Array Slot, lv_has ls 2 [(0, .ref (ad209 53)), (1, .int (xI (K : Int)))] → W p l e (xrg 1 14 4178 12) s mm args below meth c H locs (0 + 1 + 1 + 1 + 1 + 1 + 1 + 1 + 1 + 1 + 1 + 1 + 1 + 1 + 1) (0 + 800 + 4 + 1600 + 8 + 220 + 24 + 200 + 202 + 202 + 400 + 2 + 512 + 2 + 2) (MQ below (va_Qv (fun u => xG 53 ad u.1 en u.2 ∧ u.1 53 = ad 53 ∧ ∃ M : MO, MW cA u.1 u.2 M ∧ MR sp_S0 M) (xEg D (68) (54) ad sz) (xA (54) ad sz)) args s 14 4178 (xA 54 ad sz)) (F0 mm 122 ls []) := by
    intro nn
    induction nn with
    | zero =>
      intro K F ew122 H locs hk8 hF hmm hM hG hP hS ls hl
      exact absurd hmm (Nat.not_lt_zero _)
    | succ nn ih122 =>
      intro K F ew122 H locs hk8 hF hmm hM hG hP hS ls hl
      refine lv_iload_n hx hb dX5_init_122 rfl (lv_at hl 1 rfl) ?_
      refine x_bipush hx hb dX5_init_123 (by decide +kernel) ?_
      refine x_icmp_ge (tgt := 141) hx hb dX5_init_125 (by decide) (by omega) (fun c_125 => ?_) (fun c_125 => ?_)
      · refine lv_aload_n hx hb dX5_init_141 rfl (lv_at hl 0 rfl) ?_
        refine x_get (T := TX5) (N := 17) hx hb hts uX5 hown hK hP (i := 53) (by omega) (show ew122 53 = .inr (5, [.ref (ad209 54), .ref (ad209 55), .ref (ad209 56), .ref (ad209 57), .ref (ad209 58), .int (xI 0), .ref (ad209 59), .ref (ad209 60), .ref (ad209 61), .ref (ad209 62), .int (xI 0), .ref (ad209 63), .ref (ad209 64), .ref (ad209 65), .ref (ad209 66), .ref (ad209 67), .long 0]) from hM.1) rfl 12 (by decide) u_fl_RX5_40 rfl dX5_init_142 ?_
        refine x_iconst hx hb dX5_init_145 ?_
        refine x_iconst hx hb dX5_init_146 ?_
        refine x_ist hx hb hK hP hD hS (i := 64) (by omega) hM.2.2.2.2.2.2.2.2.2.2.2.1 (by omega) dX5_init_147 (fun H locs hP hS => ?_)
        obtain ⟨en239, he239⟩ : ∃ z, z = va_up ew122 64 (.inl (cA 0, 2, .inl (upd (fun k => xI ((fun _ => 0) k)) 0 (xI (-1))))) := ⟨_, rfl⟩
        have hP : va_P D vwCl (xw 68 ad209 en239) H := by rw [he239]; exact hP
        have hM : MW cA ad209 en239 (mO (fun _ => 0) (fun _ => 0) (fun _ => 0) F (fun _ => 0) 0 (fun _ => 0) (fun _ => 0) (fun _ => 0) (fun _ => 0) 0 (fun _ => 0) (sp_up (fun _ => 0) 0 (-1)) (fun _ => 0) (fun _ => 0) (fun _ => 0) 0) := by rw [he239]; exact hM.u_cutMany 0 (-1)
        have hG : xG 53 ad ad209 en en239 := by rw [he239]; exact hG.up (by omega)
        refine lv_aload_n hx hb dX5_init_148 rfl (lv_at hl 0 rfl) ?_
        refine x_get (T := TX5) (N := 17) hx hb hts uX5 hown hK hP (i := 53) (by omega) (show en239 53 = .inr (5, [.ref (ad209 54), .ref (ad209 55), .ref (ad209 56), .ref (ad209 57), .ref (ad209 58), .int (xI 0), .ref (ad209 59), .ref (ad209 60), .ref (ad209 61), .ref (ad209 62), .int (xI 0), .ref (ad209 63), .ref (ad209 64), .ref (ad209 65), .ref (ad209 66), .ref (ad209 67), .long 0]) from hM.1) rfl 12 (by decide) u_fl_RX5_40 rfl dX5_init_149 ?_
        refine x_iconst hx hb dX5_init_152 ?_
        refine x_iconst hx hb dX5_init_153 ?_
        refine x_ist hx hb hK hP hD hS (i := 64) (by omega) hM.2.2.2.2.2.2.2.2.2.2.2.1 (by omega) dX5_init_154 (fun H locs hP hS => ?_)
        obtain ⟨en240, he240⟩ : ∃ z, z = va_up en239 64 (.inl (cA 0, 2, .inl (upd (fun k => xI ((sp_up (fun _ => 0) 0 (-1)) k)) 1 (xI (-1))))) := ⟨_, rfl⟩
        have hP : va_P D vwCl (xw 68 ad209 en240) H := by rw [he240]; exact hP
        have hM : MW cA ad209 en240 (mO (fun _ => 0) (fun _ => 0) (fun _ => 0) F (fun _ => 0) 0 (fun _ => 0) (fun _ => 0) (fun _ => 0) (fun _ => 0) 0 (fun _ => 0) (sp_up (sp_up (fun _ => 0) 0 (-1)) 1 (-1)) (fun _ => 0) (fun _ => 0) (fun _ => 0) 0) := by rw [he240]; exact hM.u_cutMany 1 (-1)
        have hG : xG 53 ad ad209 en en240 := by rw [he240]; exact hG.up (by omega)
        exact xe_g hx hb hrt hlocks hP hD hS (⟨hG, hG1, _, hM, ⟨fun b hb => ⟨rfl, fun k hk => absurd hk (Nat.not_lt_zero _)⟩, fun t ht => hF t (by omega), ⟨rfl, fun k hk => absurd hk (Nat.not_lt_zero _)⟩, fun c hc => by
    rcases (show c = 0 ∨ c = 1 by omega) with rfl | rfl <;> rfl⟩⟩) dX5_init_155
      · refine lv_aload_n hx hb dX5_init_128 rfl (lv_at hl 0 rfl) ?_
        refine x_get (T := TX5) (N := 17) hx hb hts uX5 hown hK hP (i := 53) (by omega) (show ew122 53 = .inr (5, [.ref (ad209 54), .ref (ad209 55), .ref (ad209 56), .ref (ad209 57), .ref (ad209 58), .int (xI 0), .ref (ad209 59), .ref (ad209 60), .ref (ad209 61), .ref (ad209 62), .int (xI 0), .ref (ad209 63), .ref (ad209 64), .ref (ad209 65), .ref (ad209 66), .ref (ad209 67), .long 0]) from hM.1) rfl 3 (by decide) u_fl_RX5_19 rfl dX5_init_129 ?_
        refine lv_iload_n hx hb dX5_init_132 rfl (lv_at hl 1 rfl) ?_
        refine x_iconst hx hb dX5_init_133 ?_
        refine x_ist hx hb hK hP hD hS (i := 57) (by omega) hM.2.2.2.2.1 (by omega) dX5_init_134 (fun H locs hP hS => ?_)
        obtain ⟨en241, he241⟩ : ∃ z, z = va_up ew122 57 (.inl (cA 0, 8, .inl (upd (fun k => xI (F k)) K (xI (-1))))) := ⟨_, rfl⟩
        have hP : va_P D vwCl (xw 68 ad209 en241) H := by rw [he241]; exact hP
        have hM : MW cA ad209 en241 (mO (fun _ => 0) (fun _ => 0) (fun _ => 0) (sp_up F K (-1)) (fun _ => 0) 0 (fun _ => 0) (fun _ => 0) (fun _ => 0) (fun _ => 0) 0 (fun _ => 0) (fun _ => 0) (fun _ => 0) (fun _ => 0) (fun _ => 0) 0) := by rw [he241]; exact hM.u_toldMany K (-1)
        have hG : xG 53 ad ad209 en en241 := by rw [he241]; exact hG.up (by omega)
        refine x_iinc (lv' := [(1, .int (xI ((K : Int) + 1))), (0, .ref (ad209 53))]) (k := 1) hx hb dX5_init_135 hl rfl (by decide) rfl (fun ls hl => ?_)
        refine lv_goto (tgt := 122) hx hb dX5_init_138 (by decide) ?_
        exact ih122 (K + 1) (sp_up F K (-1)) en241 _ _ (by omega) (fun k hk => by
      by_cases q : k = K
      · rw [q, sp_up_s]
      · rw [sp_up_n _ _ q]; exact hF k (by omega)) (by omega) hM hG hP hS ls (lv_sub hl [1, 0] rfl)
  exact L122 _ 0 (fun _ => 0) en224 _ _ (Nat.zero_le _) (fun k hk => absurd hk (Nat.not_lt_zero _)) (Nat.lt_succ_self _) hM hG hP hS ls (lv_sub hl [1, 0] rfl)
