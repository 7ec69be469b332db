/-! makers -/
set_option maxRecDepth 20000 in
theorem c_X2_init (l : Launch) (D : va_G) (cA : Nat → ClassId) (n : Nat) (ad : Nat → Nat) (en : Nat → va_E) (sz : Nat) (he : en n = .inr (2, [.null, .int (xI ((0 : Nat) : Int))])) : Met l yX2_init (Cond.code yX2_init cX2_init 1 none :: xU) (xrg 1 1 200 12) (va_Pc [.ref (ad n)] (xMg D cA (n + 1) ad en sz)) (va_Qv (fun u => xG n ad u.1 en u.2 ∧ u.1 n = ad n ∧ XR cA u.1 u.2 n 0 (fun _ => 0)) (xEg D (n + 2) (n + 1) ad sz) (xA (n + 1) ad sz)) 1 200 (xA (n + 1) ad sz) := by
  refine xmet (by decide) (Nat.le_of_ble_eq_true rfl) (fun p e s mm args below meth c ls hx hb hrt hml hown hts hlocks hname hB hl => ?_)
  obtain ⟨⟨⟨hP, hK, hN⟩, hsz, hDt⟩, hQ⟩ := hB
  have hD : xD (xA (n + 1) ad sz) (n + 1) ad := xD_self hDt sz
  have hA : ∀ q : Nat, s.heap.size ≤ q → xA (n + 1) ad sz q := fun q h => Or.inr (by rw [← hsz]; exact h)
  have hS : va_S (xA (n + 1) ad sz) s.heap s.heap [] := va_S.rf
  have hown : s.vm.findClass RX2 = some mm.cls := hown
  have hl : lv_has ls 1 [(0, .ref (ad n))] := hl
  refine lv_aload_n hx hb dX2_init_0 rfl (lv_at hl 0 rfl) ?_
  refine W.objInit hx hb hown (hts _ u_ml_RX2_3) (hts _ u_im_objectInit) (hts _ u_co_objectInit) rfl (by rw [hml]; exact hl.1) rfl dX2_init_1 (Nat.le_of_ble_eq_true rfl) (Nat.le_of_ble_eq_true rfl) ?_
  refine W.eq (g2 := F0 mm 4 ls []) rfl ?_
  refine lv_aload_n hx hb dX2_init_4 rfl (lv_at hl 0 rfl) ?_
  refine x_sipush hx hb dX2_init_5 (by decide +kernel) ?_
  refine x_newi hx hb hts hK hP hD hS hA (k := 200) (by omega) (by show 0 + 1 ≤ 1; omega) (by show 0 + 200 ≤ 200; omega) dX2_init_8 (fun ad1 en1 H hg1 he1 hP hD hS => ?_)
  have hl : lv_has ls 1 [(0, .ref (ad1 n))] := by rw [(hg1 n (by omega)).1]; exact hl
  refine x_tor1 ((hg1 n (by omega)).1.symm) ?_
  have hm2 : en1 n = .inr (2, [.null, .int (xI ((0 : Nat) : Int))]) := (hg1 n (by omega)).2.trans he
  have hG : xG n ad ad1 en en1 := hg1.le (by omega)
  have hG1 : ad1 n = ad n := (hg1 n (by omega)).1
  refine x_putF (T := TX2) (N := 2) (ty := tyX2 0) hx hb hts uX2 tyX2 tyX2_ok nmX2 hown hK hP hD hS (i := n) (by omega) hm2 rfl 0 (by decide) u_fl_RX2_9 rfl hname rfl (by decide +kernel) rfl rfl (by show 0 < 2; decide) dX2_init_10 (fun H locs hP hS => ?_)
  have hP : va_P D vwCl (xw (n + 2) ad1 (va_up en1 n (.inr (2, [.ref (ad1 (n + 1)), .int (xI ((0 : Nat) : Int))])))) H := hP
  obtain ⟨en3, he3⟩ : ∃ z, z = va_up en1 n (.inr (2, [.ref (ad1 (n + 1)), .int (xI ((0 : Nat) : Int))])) := ⟨_, rfl⟩
  rw [← he3] at hP
  have ho3 : en3 n = (.inr (2, [.ref (ad1 (n + 1)), .int (xI ((0 : Nat) : Int))])) := by rw [he3, va_up_self]
  have hk4 := (show en3 (n + 1) = en1 (n + 1) from by rw [he3, va_up_ne _ _ (by omega)]).trans he1
  have hG : xG n ad ad1 en en3 := by rw [he3]; exact hG.up (by omega)
  exact xe_g hx hb hrt hlocks hP hD hS (⟨hG, hG1, ho3, ⟨_, hk4, fun k hk => absurd hk (Nat.not_lt_zero _)⟩, Nat.zero_le _, fun k hk => absurd hk (Nat.not_lt_zero _)⟩) dX2_init_13

set_option maxRecDepth 20000 in
theorem c_X3_init (l : Launch) (D : va_G) (cA : Nat → ClassId) (n : Nat) (ad : Nat → Nat) (en : Nat → va_E) (sz : Nat) (he : en n = .inr (3, [.null, .int (xI 0)])) : Met l yX3_init (Cond.code yX3_init cX3_init 1 none :: xU) (xrg 2 2 202 32) (va_Pc [.ref (ad n)] (xMg D cA (n + 1) ad en sz)) (va_Qv (fun u => xG n ad u.1 en u.2 ∧ u.1 n = ad n ∧ XT cA u.1 u.2 n none) (xEg D (n + 3) (n + 1) ad sz) (xA (n + 1) ad sz)) 2 202 (xA (n + 1) ad sz) := by
  refine xmet (by decide) (Nat.le_of_ble_eq_true rfl) (fun p e s mm args below meth c ls hx hb hrt hml hown hts hlocks hname hB hl => ?_)
  obtain ⟨⟨⟨hP, hK, hN⟩, hsz, hDt⟩, hQ⟩ := hB
  have hD : xD (xA (n + 1) ad sz) (n + 1) ad := xD_self hDt sz
  have hA : ∀ q : Nat, s.heap.size ≤ q → xA (n + 1) ad sz q := fun q h => Or.inr (by rw [← hsz]; exact h)
  have hS : va_S (xA (n + 1) ad sz) s.heap s.heap [] := va_S.rf
  have hown : s.vm.findClass RX3 = some mm.cls := hown
  have hl : lv_has ls 1 [(0, .ref (ad n))] := hl
  refine lv_aload_n hx hb dX3_init_0 rfl (lv_at hl 0 rfl) ?_
  refine W.objInit hx hb hown (hts _ u_ml_RX3_1) (hts _ u_im_objectInit) (hts _ u_co_objectInit) rfl (by rw [hml]; exact hl.1) rfl dX3_init_1 (Nat.le_of_ble_eq_true rfl) (Nat.le_of_ble_eq_true rfl) ?_
  refine W.eq (g2 := F0 mm 4 ls []) rfl ?_
  refine lv_aload_n hx hb dX3_init_4 rfl (lv_at hl 0 rfl) ?_
  refine x_new (T := TX2) (N := 2) (ci := 2) hx hb hts uX2 tyX2 tyX2_ok hown u_cl_RX3_7 u_ib_RX2 u_in_RX2 hK hP hD hS hA rfl [.null, .int (xI ((0 : Nat) : Int))] (fun j hj => match j, hj with | 0, _ => rfl | 1, _ => congrArg Value.int xI_z | j + 2, h => absurd h (by omega)) (by show 0 + 1 ≤ 2; omega) (by show 0 + 2 ≤ 202; omega) dX3_init_5 (fun ad1 en1 H hg1 he1 hP hD hS => ?_)
  have hl : lv_has ls 1 [(0, .ref (ad1 n))] := by rw [(hg1 n (by omega)).1]; exact hl
  refine x_tor1 ((hg1 n (by omega)).1.symm) ?_
  have hm2 : en1 n = .inr (3, [.null, .int (xI 0)]) := (hg1 n (by omega)).2.trans he
  have hG : xG n ad ad1 en en1 := hg1.le (by omega)
  have hG1 : ad1 n = ad n := (hg1 n (by omega)).1
  refine lv_dup hx hb dX3_init_8 rfl ?_
  refine xc_init ⟨hx, hb, hml, hown, hts⟩ hl.1 (c_X2_init l D cA (n + 1) ad1 en1 _ he1) u_co_yX2_init u_in_RX2 u_im_yX2_init (by simp only [xNestM, List.mem_cons]; exact Or.inr (Or.inr (Or.inr (Or.inr (Or.inl rfl))))) rfl (by decide +kernel) hK hN hQ hP (Nat.le_of_ble_eq_true rfl) ⟨Nat.le_of_ble_eq_true rfl, Nat.le_of_ble_eq_true rfl⟩ ⟨(by show 0 + 1 + 1 ≤ 2; omega), (by show 0 + 2 + 200 ≤ 202; omega)⟩ dX3_init_9 hD hS hA (fun ad3 en3 H locs hp3 hP hD hS => ?_)
  obtain ⟨hg3, ha3, hr3⟩ := hp3
  have hg3 : xG (n + 1) ad1 ad3 en1 en3 := hg3
  have ha3 : ad3 (n + 1) = ad1 (n + 1) := ha3
  have hr3 : XR cA ad3 en3 (n + 1) 0 (fun _ => 0) := hr3
  have hl : lv_has ls 1 [(0, .ref (ad3 n))] := by rw [(hg3 n (by omega)).1]; exact hl
  refine x_tor (ha3.symm) ?_
  refine x_tor1 ((hg3 n (by omega)).1.symm) ?_
  have hm4 : en3 n = .inr (3, [.null, .int (xI 0)]) := (hg3 n (by omega)).2.trans hm2
  have hG : xG n ad ad3 en en3 := hG.tr hg3 (by omega)
  have hG1 : ad3 n = ad n := (hg3 n (by omega)).1.trans hG1
  refine x_putF (T := TX3) (N := 2) (ty := tyX3 0) hx hb hts uX3 tyX3 tyX3_ok nmX3 hown hK hP hD hS (i := n) (by omega) hm4 rfl 0 (by decide) u_fl_RX3_10 rfl hname rfl (by decide +kernel) rfl rfl (by show 0 < 2; decide) dX3_init_12 (fun H locs hP hS => ?_)
  have hP : va_P D vwCl (xw (n + 3) ad3 (va_up en3 n (.inr (3, [.ref (ad3 (n + 1)), .int (xI 0)])))) H := hP
  obtain ⟨en5, he5⟩ : ∃ z, z = va_up en3 n (.inr (3, [.ref (ad3 (n + 1)), .int (xI 0)])) := ⟨_, rfl⟩
  rw [← he5] at hP
  have ho5 : en5 n = (.inr (3, [.ref (ad3 (n + 1)), .int (xI 0)])) := by rw [he5, va_up_self]
  have hk6 := (show en5 (n + 1) = en3 (n + 1) from by rw [he5, va_up_ne _ _ (by omega)]).trans hr3.1
  have hoe : xO n (n + 1) en3 en5 := by rw [he5]; exact xO.rf.up (Nat.le_refl _) (Nat.lt_succ_self _)
  have hr3 := hr3.ko hoe (by omega)
  have hG : xG n ad ad3 en en5 := by rw [he5]; exact hG.up (by omega)
  refine lv_aload_n hx hb dX3_init_15 rfl (lv_at hl 0 rfl) ?_
  refine x_iconst hx hb dX3_init_16 ?_
  refine x_put (T := TX3) (N := 2) (ty := .boolean) hx hb hts uX3 tyX3 tyX3_ok nmX3 hown hK hP hD hS (i := n) (by omega) ho5 rfl 1 (by decide) u_fl_RX3_16 rfl (by decide +kernel) (by first | exact xb_nar _ | decide +kernel) (by first | exact xb_fit _ | decide +kernel) (by show 1 < 2; decide) dX3_init_17 (fun H locs hP hS => ?_)
  have hP : va_P D vwCl (xw (n + 3) ad3 (va_up en5 n (.inr (3, [.ref (ad3 (n + 1)), .int (xI 1)])))) H := hP
  obtain ⟨en7, he7⟩ : ∃ z, z = va_up en5 n (.inr (3, [.ref (ad3 (n + 1)), .int (xI 1)])) := ⟨_, rfl⟩
  rw [← he7] at hP
  have ho7 : en7 n = (.inr (3, [.ref (ad3 (n + 1)), .int (xI 1)])) := by rw [he7, va_up_self]
  have hk8 := (show en7 (n + 1) = en5 (n + 1) from by rw [he7, va_up_ne _ _ (by omega)]).trans hr3.1
  have hoe : xO n (n + 1) en5 en7 := by rw [he7]; exact xO.rf.up (Nat.le_refl _) (Nat.lt_succ_self _)
  have hr3 := hr3.ko hoe (by omega)
  have hG : xG n ad ad3 en en7 := by rw [he7]; exact hG.up (by omega)
  exact xe_g hx hb hrt hlocks hP hD hS (⟨hG, hG1, ho7, 0, _, hr3⟩) dX3_init_20

set_option maxRecDepth 20000 in
theorem c_X0_init (l : Launch) (D : va_G) (cA : Nat → ClassId) (n : Nat) (ad : Nat → Nat) (en : Nat → va_E) (sz : Nat) (he : en n = .inr (0, [.null, .null, .int (xb False), .int (xI 0), .int (xI 0)])) : Met l yX0_init (Cond.code yX0_init cX0_init 1 none :: xU) (xrg 2 3 458 32) (va_Pc [.ref (ad n)] (xMg D cA (n + 1) ad en sz)) (va_Qv (fun u => xG n ad u.1 en u.2 ∧ u.1 n = ad n ∧ XC cA u.1 u.2 n none) (xEg D (n + 4) (n + 1) ad sz) (xA (n + 1) ad sz)) 3 458 (xA (n + 1) ad sz) := by
  refine xmet (by decide) (Nat.le_of_ble_eq_true rfl) (fun p e s mm args below meth c ls hx hb hrt hml hown hts hlocks hname hB hl => ?_)
  obtain ⟨⟨⟨hP, hK, hN⟩, hsz, hDt⟩, hQ⟩ := hB
  have hD : xD (xA (n + 1) ad sz) (n + 1) ad := xD_self hDt sz
  have hA : ∀ q : Nat, s.heap.size ≤ q → xA (n + 1) ad sz q := fun q h => Or.inr (by rw [← hsz]; exact h)
  have hS : va_S (xA (n + 1) ad sz) s.heap s.heap [] := va_S.rf
  have hown : s.vm.findClass RX0 = some mm.cls := hown
  have hl : lv_has ls 1 [(0, .ref (ad n))] := hl
  refine lv_aload_n hx hb dX0_init_0 rfl (lv_at hl 0 rfl) ?_
  refine W.objInit hx hb hown (hts _ u_ml_RX0_3) (hts _ u_im_objectInit) (hts _ u_co_objectInit) rfl (by rw [hml]; exact hl.1) rfl dX0_init_1 (Nat.le_of_ble_eq_true rfl) (Nat.le_of_ble_eq_true rfl) ?_
  refine W.eq (g2 := F0 mm 4 ls []) rfl ?_
  refine lv_aload_n hx hb dX0_init_4 rfl (lv_at hl 0 rfl) ?_
  refine x_new (T := TX2) (N := 2) (ci := 2) hx hb hts uX2 tyX2 tyX2_ok hown u_cl_RX0_9 u_ib_RX2 u_in_RX2 hK hP hD hS hA rfl [.null, .int (xI ((0 : Nat) : Int))] (fun j hj => match j, hj with | 0, _ => rfl | 1, _ => congrArg Value.int xI_z | j + 2, h => absurd h (by omega)) (by show 0 + 1 ≤ 3; omega) (by show 0 + 2 ≤ 458; omega) dX0_init_5 (fun ad1 en1 H hg1 he1 hP hD hS => ?_)
  have hl : lv_has ls 1 [(0, .ref (ad1 n))] := by rw [(hg1 n (by omega)).1]; exact hl
  refine x_tor1 ((hg1 n (by omega)).1.symm) ?_
  have hm2 : en1 n = .inr (0, [.null, .null, .int (xb False), .int (xI 0), .int (xI 0)]) := (hg1 n (by omega)).2.trans he
  have hG : xG n ad ad1 en en1 := hg1.le (by omega)
  have hG1 : ad1 n = ad n := (hg1 n (by omega)).1
  refine lv_dup hx hb dX0_init_8 rfl ?_
  refine xc_init ⟨hx, hb, hml, hown, hts⟩ hl.1 (c_X2_init l D cA (n + 1) ad1 en1 _ he1) u_co_yX2_init u_in_RX2 u_im_yX2_init (by simp only [xNestM, List.mem_cons]; exact Or.inr (Or.inr (Or.inr (Or.inr (Or.inr (Or.inr (Or.inl rfl))))))) rfl (by decide +kernel) hK hN hQ hP (Nat.le_of_ble_eq_true rfl) ⟨Nat.le_of_ble_eq_true rfl, Nat.le_of_ble_eq_true rfl⟩ ⟨(by show 0 + 1 + 1 ≤ 3; omega), (by show 0 + 2 + 200 ≤ 458; omega)⟩ dX0_init_9 hD hS hA (fun ad3 en3 H locs hp3 hP hD hS => ?_)
  obtain ⟨hg3, ha3, hr3⟩ := hp3
  have hg3 : xG (n + 1) ad1 ad3 en1 en3 := hg3
  have ha3 : ad3 (n + 1) = ad1 (n + 1) := ha3
  have hr3 : XR cA ad3 en3 (n + 1) 0 (fun _ => 0) := hr3
  have hl : lv_has ls 1 [(0, .ref (ad3 n))] := by rw [(hg3 n (by omega)).1]; exact hl
  refine x_tor (ha3.symm) ?_
  refine x_tor1 ((hg3 n (by omega)).1.symm) ?_
  have hm4 : en3 n = .inr (0, [.null, .null, .int (xb False), .int (xI 0), .int (xI 0)]) := (hg3 n (by omega)).2.trans hm2
  have hG : xG n ad ad3 en en3 := hG.tr hg3 (by omega)
  have hG1 : ad3 n = ad n := (hg3 n (by omega)).1.trans hG1
  refine x_putF (T := TX0) (N := 5) (ty := tyX0 0) hx hb hts uX0 tyX0 tyX0_ok nmX0 hown hK hP hD hS (i := n) (by omega) hm4 rfl 0 (by decide) u_fl_RX0_12 rfl hname rfl (by decide +kernel) rfl rfl (by show 0 < 5; decide) dX0_init_12 (fun H locs hP hS => ?_)
  have hP : va_P D vwCl (xw (n + 3) ad3 (va_up en3 n (.inr (0, [.ref (ad3 (n + 1)), .null, .int (xb False), .int (xI 0), .int (xI 0)])))) H := hP
  obtain ⟨en5, he5⟩ : ∃ z, z = va_up en3 n (.inr (0, [.ref (ad3 (n + 1)), .null, .int (xb False), .int (xI 0), .int (xI 0)])) := ⟨_, rfl⟩
  rw [← he5] at hP
  have ho5 : en5 n = (.inr (0, [.ref (ad3 (n + 1)), .null, .int (xb False), .int (xI 0), .int (xI 0)])) := by rw [he5, va_up_self]
  have hk6 := (show en5 (n + 1) = en3 (n + 1) from by rw [he5, va_up_ne _ _ (by omega)]).trans hr3.1
  have hoe : xO n (n + 1) en3 en5 := by rw [he5]; exact xO.rf.up (Nat.le_refl _) (Nat.lt_succ_self _)
  have hr3 := hr3.ko hoe (by omega)
  have hG : xG n ad ad3 en en5 := by rw [he5]; exact hG.up (by omega)
  refine lv_aload_n hx hb dX0_init_15 rfl (lv_at hl 0 rfl) ?_
  refine x_sipush hx hb dX0_init_16 (by decide +kernel) ?_
  refine x_newz hx hb hts hK hP hD hS hA (k := 256) (by omega) (by show 0 + 1 + 1 + 1 ≤ 3; omega) (by show 0 + 2 + 200 + 256 ≤ 458; omega) dX0_init_19 (fun ad7 en7 H hg7 he7 hP hD hS => ?_)
  have hl : lv_has ls 1 [(0, .ref (ad7 n))] := by rw [(hg7 n (by omega)).1]; exact hl
  refine x_tor1 ((hg7 n (by omega)).1.symm) ?_
  have hm8 : en7 n = .inr (0, [.ref (ad7 (n + 1)), .null, .int (xb False), .int (xI 0), .int (xI 0)]) := by rw [(hg7 (n + 1) (by omega)).1]; exact (hg7 n (by omega)).2.trans ho5
  have hm9 : en7 (n + 1) = .inr (2, [.ref (ad7 (n + 1 + 1)), .int (xI ((0 : Nat) : Int))]) := by rw [(hg7 (n + 1 + 1) (by omega)).1]; exact (hg7 (n + 1) (by omega)).2.trans hr3.1
  have hr3 := hr3.mv hg7 (by omega)
  have hG : xG n ad ad7 en en7 := hG.tr hg7 (by omega)
  have hG1 : ad7 n = ad n := (hg7 n (by omega)).1.trans hG1
  refine x_putF (T := TX0) (N := 5) (ty := tyX0 1) hx hb hts uX0 tyX0 tyX0_ok nmX0 hown hK hP hD hS (i := n) (by omega) hm8 rfl 1 (by decide) u_fl_RX0_18 rfl hname rfl (by decide +kernel) rfl rfl (by show 1 < 5; decide) dX0_init_21 (fun H locs hP hS => ?_)
  have hP : va_P D vwCl (xw (n + 4) ad7 (va_up en7 n (.inr (0, [.ref (ad7 (n + 1)), .ref (ad7 (n + 3)), .int (xb False), .int (xI 0), .int (xI 0)])))) H := hP
  obtain ⟨en10, he10⟩ : ∃ z, z = va_up en7 n (.inr (0, [.ref (ad7 (n + 1)), .ref (ad7 (n + 3)), .int (xb False), .int (xI 0), .int (xI 0)])) := ⟨_, rfl⟩
  rw [← he10] at hP
  have ho10 : en10 n = (.inr (0, [.ref (ad7 (n + 1)), .ref (ad7 (n + 3)), .int (xb False), .int (xI 0), .int (xI 0)])) := by rw [he10, va_up_self]
  have hk11 := (show en10 (n + 1) = en7 (n + 1) from by rw [he10, va_up_ne _ _ (by omega)]).trans hr3.1
  have hk12 := (show en10 (n + 3) = en7 (n + 3) from by rw [he10, va_up_ne _ _ (by omega)]).trans he7
  have hoe : xO n (n + 1) en7 en10 := by rw [he10]; exact xO.rf.up (Nat.le_refl _) (Nat.lt_succ_self _)
  have hr3 := hr3.ko hoe (by omega)
  have hG : xG n ad ad7 en en10 := by rw [he10]; exact hG.up (by omega)
  refine lv_aload_n hx hb dX0_init_24 rfl (lv_at hl 0 rfl) ?_
  refine x_iconst hx hb dX0_init_25 ?_
  refine x_put (T := TX0) (N := 5) (ty := .boolean) hx hb hts uX0 tyX0 tyX0_ok nmX0 hown hK hP hD hS (i := n) (by omega) ho10 rfl 3 (by decide) u_fl_RX0_22 rfl (by decide +kernel) (by first | exact xb_nar _ | decide +kernel) (by first | exact xb_fit _ | decide +kernel) (by show 3 < 5; decide) dX0_init_26 (fun H locs hP hS => ?_)
  have hP : va_P D vwCl (xw (n + 4) ad7 (va_up en10 n (.inr (0, [.ref (ad7 (n + 1)), .ref (ad7 (n + 3)), .int (xb False), .int (xI 1), .int (xI 0)])))) H := hP
  obtain ⟨en13, he13⟩ : ∃ z, z = va_up en10 n (.inr (0, [.ref (ad7 (n + 1)), .ref (ad7 (n + 3)), .int (xb False), .int (xI 1), .int (xI 0)])) := ⟨_, rfl⟩
  rw [← he13] at hP
  have ho13 : en13 n = (.inr (0, [.ref (ad7 (n + 1)), .ref (ad7 (n + 3)), .int (xb False), .int (xI 1), .int (xI 0)])) := by rw [he13, va_up_self]
  have hk14 := (show en13 (n + 1) = en10 (n + 1) from by rw [he13, va_up_ne _ _ (by omega)]).trans hr3.1
  have hk15 := (show en13 (n + 3) = en10 (n + 3) from by rw [he13, va_up_ne _ _ (by omega)]).trans hk12
  have hoe : xO n (n + 1) en10 en13 := by rw [he13]; exact xO.rf.up (Nat.le_refl _) (Nat.lt_succ_self _)
  have hr3 := hr3.ko hoe (by omega)
  have hG : xG n ad ad7 en en13 := by rw [he13]; exact hG.up (by omega)
  exact xe_g hx hb hrt hlocks hP hD hS (⟨hG, hG1, False, 0, ho13, ⟨0, _, hr3⟩, _, hk15⟩) dX0_init_29

def sp_P0 : xPts := (0, fun _ => 0, fun _ => 0, fun _ => 0)
set_option maxRecDepth 20000 in
theorem c_X1_init (l : Launch) (D : va_G) (cA : Nat → ClassId) (ad : Nat → Nat) (en : Nat → va_E) (sz : Nat) (he : en 4 = .inr (1, [.null, .null, .null, .int (xI ((0 : Nat) : Int))])) : Met l yX1_init (Cond.code yX1_init cX1_init 1 none :: xU) (xrg 2 4 604 32) (va_Pc [.ref (ad 4)] (xMg D cA (5) ad en sz)) (va_Qv (fun u => xG 4 ad u.1 en u.2 ∧ u.1 4 = ad 4 ∧ XP cA u.1 u.2 sp_P0) (xEg D (9) (5) ad sz) (xA (5) ad sz)) 4 604 (xA (5) ad sz) := by
  refine xmet (by decide) (Nat.le_of_ble_eq_true rfl) (fun p e s mm args below meth c ls hx hb hrt hml hown hts hlocks hname hB hl => ?_)
  obtain ⟨⟨⟨hP, hK, hN⟩, hsz, hDt⟩, hQ⟩ := hB
  have hD : xD (xA (5) ad sz) (5) ad := xD_self hDt sz
  have hA : ∀ q : Nat, s.heap.size ≤ q → xA (5) ad sz q := fun q h => Or.inr (by rw [← hsz]; exact h)
  have hS : va_S (xA (5) ad sz) s.heap s.heap [] := va_S.rf
  have hown : s.vm.findClass RX1 = some mm.cls := hown
  have hl : lv_has ls 1 [(0, .ref (ad 4))] := hl
  refine lv_aload_n hx hb dX1_init_0 rfl (lv_at hl 0 rfl) ?_
  refine W.objInit hx hb hown (hts _ u_ml_RX1_3) (hts _ u_im_objectInit) (hts _ u_co_objectInit) rfl (by rw [hml]; exact hl.1) rfl dX1_init_1 (Nat.le_of_ble_eq_true rfl) (Nat.le_of_ble_eq_true rfl) ?_
  refine W.eq (g2 := F0 mm 4 ls []) rfl ?_
  refine lv_aload_n hx hb dX1_init_4 rfl (lv_at hl 0 rfl) ?_
  refine x_new (T := TX2) (N := 2) (ci := 2) hx hb hts uX2 tyX2 tyX2_ok hown u_cl_RX1_9 u_ib_RX2 u_in_RX2 hK hP hD hS hA rfl [.null, .int (xI ((0 : Nat) : Int))] (fun j hj => match j, hj with | 0, _ => rfl | 1, _ => congrArg Value.int xI_z | j + 2, h => absurd h (by omega)) (by show 0 + 1 ≤ 4; omega) (by show 0 + 2 ≤ 604; omega) dX1_init_5 (fun ad1 en1 H hg1 he1 hP hD hS => ?_)
  have hl : lv_has ls 1 [(0, .ref (ad1 4))] := by rw [(hg1 4 (by omega)).1]; exact hl
  refine x_tor1 ((hg1 4 (by omega)).1.symm) ?_
  have hm2 : en1 4 = .inr (1, [.null, .null, .null, .int (xI ((0 : Nat) : Int))]) := (hg1 4 (by omega)).2.trans he
  have hG : xG 4 ad ad1 en en1 := hg1.le (by omega)
  have hG1 : ad1 4 = ad 4 := (hg1 4 (by omega)).1
  refine lv_dup hx hb dX1_init_8 rfl ?_
  refine xc_init ⟨hx, hb, hml, hown, hts⟩ hl.1 (c_X2_init l D cA 5 ad1 en1 _ he1) u_co_yX2_init u_in_RX2 u_im_yX2_init (by simp only [xNestM, List.mem_cons]; exact Or.inr (Or.inl rfl)) rfl (by decide +kernel) hK hN hQ hP (Nat.le_of_ble_eq_true rfl) ⟨Nat.le_of_ble_eq_true rfl, Nat.le_of_ble_eq_true rfl⟩ ⟨(by show 0 + 1 + 1 ≤ 4; omega), (by show 0 + 2 + 200 ≤ 604; omega)⟩ dX1_init_9 hD hS hA (fun ad3 en3 H locs hp3 hP hD hS => ?_)
  obtain ⟨hg3, ha3, hr3⟩ := hp3
  have hg3 : xG 5 ad1 ad3 en1 en3 := hg3
  have ha3 : ad3 5 = ad1 5 := ha3
  have hr3 : XR cA ad3 en3 5 0 (fun _ => 0) := hr3
  have hl : lv_has ls 1 [(0, .ref (ad3 4))] := by rw [(hg3 4 (by omega)).1]; exact hl
  refine x_tor (ha3.symm) ?_
  refine x_tor1 ((hg3 4 (by omega)).1.symm) ?_
  have hm4 : en3 4 = .inr (1, [.null, .null, .null, .int (xI ((0 : Nat) : Int))]) := (hg3 4 (by omega)).2.trans hm2
  have hG : xG 4 ad ad3 en en3 := hG.tr hg3 (by omega)
  have hG1 : ad3 4 = ad 4 := (hg3 4 (by omega)).1.trans hG1
  refine x_putF (T := TX1) (N := 4) (ty := tyX1 0) hx hb hts uX1 tyX1 tyX1_ok nmX1 hown hK hP hD hS (i := 4) (by omega) hm4 rfl 0 (by decide) u_fl_RX1_12 rfl hname rfl (by decide +kernel) rfl rfl (by show 0 < 4; decide) dX1_init_12 (fun H locs hP hS => ?_)
  have hP : va_P D vwCl (xw 7 ad3 (va_up en3 4 (.inr (1, [.ref (ad3 5), .null, .null, .int (xI ((0 : Nat) : Int))])))) H := hP
  obtain ⟨en5, he5⟩ : ∃ z, z = va_up en3 4 (.inr (1, [.ref (ad3 5), .null, .null, .int (xI ((0 : Nat) : Int))])) := ⟨_, rfl⟩
  rw [← he5] at hP
  have ho5 : en5 4 = (.inr (1, [.ref (ad3 5), .null, .null, .int (xI ((0 : Nat) : Int))])) := by rw [he5, va_up_self]
  have hk6 := (show en5 5 = en3 5 from by rw [he5, va_up_ne _ _ (by omega)]).trans hr3.1
  have hoe : xO 4 (4 + 1) en3 en5 := by rw [he5]; exact xO.rf.up (Nat.le_refl _) (Nat.lt_succ_self _)
  have hr3 := hr3.ko hoe (by omega)
  have hG : xG 4 ad ad3 en en5 := by rw [he5]; exact hG.up (by omega)
  refine lv_aload_n hx hb dX1_init_15 rfl (lv_at hl 0 rfl) ?_
  refine x_sipush hx hb dX1_init_16 (by decide +kernel) ?_
  refine x_newi hx hb hts hK hP hD hS hA (k := 201) (by omega) (by show 0 + 1 + 1 + 1 ≤ 4; omega) (by show 0 + 2 + 200 + 201 ≤ 604; omega) dX1_init_19 (fun ad7 en7 H hg7 he7 hP hD hS => ?_)
  have hl : lv_has ls 1 [(0, .ref (ad7 4))] := by rw [(hg7 4 (by omega)).1]; exact hl
  refine x_tor1 ((hg7 4 (by omega)).1.symm) ?_
  have hm8 : en7 4 = .inr (1, [.ref (ad7 5), .null, .null, .int (xI ((0 : Nat) : Int))]) := by rw [(hg7 5 (by omega)).1]; exact (hg7 4 (by omega)).2.trans ho5
  have hm9 : en7 5 = .inr (2, [.ref (ad7 6), .int (xI ((0 : Nat) : Int))]) := by rw [(hg7 6 (by omega)).1]; exact (hg7 5 (by omega)).2.trans hr3.1
  have hr3 := hr3.mv hg7 (by omega)
  have hG : xG 4 ad ad7 en en7 := hG.tr hg7 (by omega)
  have hG1 : ad7 4 = ad 4 := (hg7 4 (by omega)).1.trans hG1
  refine x_putF (T := TX1) (N := 4) (ty := tyX1 1) hx hb hts uX1 tyX1 tyX1_ok nmX1 hown hK hP hD hS (i := 4) (by omega) hm8 rfl 1 (by decide) u_fl_RX1_18 rfl hname rfl (by decide +kernel) rfl rfl (by show 1 < 4; decide) dX1_init_21 (fun H locs hP hS => ?_)
  have hP : va_P D vwCl (xw 8 ad7 (va_up en7 4 (.inr (1, [.ref (ad7 5), .ref (ad7 7), .null, .int (xI ((0 : Nat) : Int))])))) H := hP
  obtain ⟨en10, he10⟩ : ∃ z, z = va_up en7 4 (.inr (1, [.ref (ad7 5), .ref (ad7 7), .null, .int (xI ((0 : Nat) : Int))])) := ⟨_, rfl⟩
  rw [← he10] at hP
  have ho10 : en10 4 = (.inr (1, [.ref (ad7 5), .ref (ad7 7), .null, .int (xI ((0 : Nat) : Int))])) := by rw [he10, va_up_self]
  have hk11 := (show en10 5 = en7 5 from by rw [he10, va_up_ne _ _ (by omega)]).trans hr3.1
  have hk12 := (show en10 7 = en7 7 from by rw [he10, va_up_ne _ _ (by omega)]).trans he7
  have hoe : xO 4 (4 + 1) en7 en10 := by rw [he10]; exact xO.rf.up (Nat.le_refl _) (Nat.lt_succ_self _)
  have hr3 := hr3.ko hoe (by omega)
  have hG : xG 4 ad ad7 en en10 := by rw [he10]; exact hG.up (by omega)
  refine lv_aload_n hx hb dX1_init_24 rfl (lv_at hl 0 rfl) ?_
  refine x_sipush hx hb dX1_init_25 (by decide +kernel) ?_
  refine x_newi hx hb hts hK hP hD hS hA (k := 201) (by omega) (by show 0 + 1 + 1 + 1 + 1 ≤ 4; omega) (by show 0 + 2 + 200 + 201 + 201 ≤ 604; omega) dX1_init_28 (fun ad13 en13 H hg13 he13 hP hD hS => ?_)
  have hl : lv_has ls 1 [(0, .ref (ad13 4))] := by rw [(hg13 4 (by omega)).1]; exact hl
  refine x_tor1 ((hg13 4 (by omega)).1.symm) ?_
  have hm14 : en13 4 = .inr (1, [.ref (ad13 5), .ref (ad13 7), .null, .int (xI ((0 : Nat) : Int))]) := by rw [(hg13 5 (by omega)).1, (hg13 7 (by omega)).1]; exact (hg13 4 (by omega)).2.trans ho10
  have hm15 : en13 5 = .inr (2, [.ref (ad13 6), .int (xI ((0 : Nat) : Int))]) := by rw [(hg13 6 (by omega)).1]; exact (hg13 5 (by omega)).2.trans hr3.1
  have hm16 := (hg13 7 (by omega)).2.trans hk12
  have hr3 := hr3.mv hg13 (by omega)
  have hG : xG 4 ad ad13 en en13 := hG.tr hg13 (by omega)
  have hG1 : ad13 4 = ad 4 := (hg13 4 (by omega)).1.trans hG1
  refine x_putF (T := TX1) (N := 4) (ty := tyX1 2) hx hb hts uX1 tyX1 tyX1_ok nmX1 hown hK hP hD hS (i := 4) (by omega) hm14 rfl 2 (by decide) u_fl_RX1_22 rfl hname rfl (by decide +kernel) rfl rfl (by show 2 < 4; decide) dX1_init_30 (fun H locs hP hS => ?_)
  have hP : va_P D vwCl (xw 9 ad13 (va_up en13 4 (.inr (1, [.ref (ad13 5), .ref (ad13 7), .ref (ad13 8), .int (xI ((0 : Nat) : Int))])))) H := hP
  obtain ⟨en17, he17⟩ : ∃ z, z = va_up en13 4 (.inr (1, [.ref (ad13 5), .ref (ad13 7), .ref (ad13 8), .int (xI ((0 : Nat) : Int))])) := ⟨_, rfl⟩
  rw [← he17] at hP
  have ho17 : en17 4 = (.inr (1, [.ref (ad13 5), .ref (ad13 7), .ref (ad13 8), .int (xI ((0 : Nat) : Int))])) := by rw [he17, va_up_self]
  have hk18 := (show en17 5 = en13 5 from by rw [he17, va_up_ne _ _ (by omega)]).trans hr3.1
  have hk19 := (show en17 7 = en13 7 from by rw [he17, va_up_ne _ _ (by omega)]).trans hm16
  have hk20 := (show en17 8 = en13 8 from by rw [he17, va_up_ne _ _ (by omega)]).trans he13
  have hoe : xO 4 (4 + 1) en13 en17 := by rw [he17]; exact xO.rf.up (Nat.le_refl _) (Nat.lt_succ_self _)
  have hr3 := hr3.ko hoe (by omega)
  have hG : xG 4 ad ad13 en en17 := by rw [he17]; exact hG.up (by omega)
  exact xe_g hx hb hrt hlocks hP hD hS (⟨hG, hG1, ho17, ⟨0, hr3, fun k hk => absurd hk (Nat.not_lt_zero _)⟩, ⟨_, hk19, fun k hk => absurd hk (Nat.not_lt_zero _)⟩, ⟨_, hk20, fun k hk => absurd hk (Nat.not_lt_zero _)⟩, Nat.zero_le _, fun k hk => absurd hk (Nat.not_lt_zero _), fun hk => absurd hk (Nat.not_lt_zero _), fun k hk => absurd hk (Nat.not_lt_zero _)⟩) dX1_init_33
