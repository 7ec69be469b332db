set_option maxRecDepth 20000 in
theorem c_X0_begin (l : Launch) (D : va_G) (cA : Nat → ClassId) (n : Nat) (ad : Nat → Nat) (en : Nat → va_E) (sz : Nat) {i m : Nat} {f : Nat → Int} {G : Prop} {zz pl : Int} (hi : i + 3 < n) (hk : XKw cA ad en i m f G zz pl) {j k : Nat} {h : Nat → Int} (hj : j + 1 < n) (hq : XR cA ad en j k h) {j2 k2 : Nat} {h2 : Nat → Int} (hj2 : j2 + 1 < n) (hq2 : XR cA ad en j2 k2 h2) (hij : j + 1 < i ∨ i + 3 < j) (hij2 : j2 + 1 < i ∨ i + 3 < j2) (G1 : Prop) : Met l yX0_begin (Cond.code yX0_begin cX0_begin 4 none :: xU) (xrm 3 65) (va_Pc [.ref (ad i), .ref (ad j), .ref (ad j2), .int (xb G1)] (xM D cA n ad en sz)) (va_Qv (fun u => XK cA ad u i k h (sp_sep h2 k2) G1 0 0 ∧ xO i (i + 4) en u) (xE D n ad) (xA n ad sz)) 0 0 (xA n ad sz) := by
  refine xmet (by decide) (Nat.le_of_ble_eq_true rfl) (fun p e s mm args below meth c ls hx hb hrt hml hown hts hlocks hname hB hl => ?_)
  obtain ⟨⟨hP, hK, hN⟩, hsz, hDt⟩ := hB
  have hD : xD (xA n ad sz) n ad := xD_self hDt sz
  have hA : ∀ q : Nat, s.heap.size ≤ q → xA n ad sz q := fun q h => Or.inr (by rw [← hsz]; exact h)
  have hS : va_S (xA n ad sz) s.heap s.heap [] := va_S.rf
  have hown : s.vm.findClass RX0 = some mm.cls := hown
  have hl : lv_has ls 4 [(0, .ref (ad i)), (1, .ref (ad j)), (2, .ref (ad j2)), (3, .int (xb G1))] := hl
  have hm := hk.2.1.2.2.1
  have hm2 := hq.2.2.1
  refine lv_aload_n hx hb dX0_begin_0 rfl (lv_at hl 0 rfl) ?_
  refine x_get (T := TX0) (N := 5) hx hb hts uX0 hown hK hP (i := i) (by omega) hk.1 rfl 0 (by decide) u_fl_RX0_12 rfl dX0_begin_1 ?_
  refine lv_aload_n hx hb dX0_begin_4 rfl (lv_at hl 1 rfl) ?_
  refine x_iconst hx hb dX0_begin_5 ?_
  refine lv_aload_n hx hb dX0_begin_6 rfl (lv_at hl 1 rfl) ?_
  refine x_getn (T := TX2) (N := 2) hx hb hts uX2 hown hN hK hP (i := j) (by omega) hq.1 rfl 1 (by decide) (by simp only [xNest, List.mem_cons]; exact Or.inl rfl) rfl dX0_begin_7 ?_
  refine xm_i (i := i + 1) (As := [.ref (ad j), .int (xI 0), .int (xI (k : Int))]) (rest := []) ⟨hx, hb, hml, hown, hts⟩ hl.1 (c_X2_copy l D cA n ad en _ (by omega) hk.2.1 (by omega) hq (by omega) 0 (k : Int) (by omega) (by omega)) k_X2_copy u_ml_RX0_30 hK hN hP (by omega) hk.2.1.1 rfl rfl rfl rfl (Nat.le_of_ble_eq_true rfl) ⟨Nat.le_of_ble_eq_true rfl, Nat.le_of_ble_eq_true rfl⟩ ⟨Nat.le_of_ble_eq_true rfl, Nat.le_of_ble_eq_true rfl⟩ dX0_begin_10 hD hS hA (fun r1 en1 H locs hp1 hP hS => ?_)
  rcases hp1 with ⟨hsp, hrv, hx1, hoc⟩ | ⟨hsp, hrv, hu⟩
  · subst hrv
    have hk := hk.rw hoc (hx1.to (m' := k) (f' := h) (by omega) (fun t _ => by rw [show Int.toNat 0 + t = t from Nat.zero_add t]))
    have hq2 := hq2.ko hoc (by omega)
    have ho : xO i (i + 4) en en1 := hoc.mo (by omega) (by omega)
    refine lv_pop hx hb dX0_begin_13 rfl ?_
    refine lv_aload_n hx hb dX0_begin_14 rfl (lv_at hl 0 rfl) ?_
    refine lv_aload_n hx hb dX0_begin_15 rfl (lv_at hl 2 rfl) ?_
    refine xm_v (i := i) (As := [.ref (ad j2)]) (rest := []) ⟨hx, hb, hml, hown, hts⟩ hl.1 (c_X0_separateBy l D cA n ad en1 _ (by omega) hk (by omega) hq2 (by omega)) k_X0_separateBy u_ml_RX0_34 hK hN hP (by omega) hk.1 rfl rfl rfl rfl (Nat.le_of_ble_eq_true rfl) ⟨Nat.le_of_ble_eq_true rfl, Nat.le_of_ble_eq_true rfl⟩ ⟨Nat.le_of_ble_eq_true rfl, Nat.le_of_ble_eq_true rfl⟩ dX0_begin_16 hD hS hA (fun en2 H locs hp2 hP hS => ?_)
    obtain ⟨hk, hosb⟩ := hp2
    have hq2 := hq2.ko hosb (by omega)
    have ho := ho.tr (hosb.mo (by omega) (by omega))
    refine lv_aload_n hx hb dX0_begin_19 rfl (lv_at hl 0 rfl) ?_
    refine lv_iload_n hx hb dX0_begin_20 rfl (lv_at hl 3 rfl) ?_
    refine x_put (T := TX0) (N := 5) (ty := .boolean) hx hb hts uX0 tyX0 tyX0_ok nmX0 hown hK hP hD hS (i := i) (by omega) hk.1 rfl 2 (by decide) u_fl_RX0_38 rfl (by decide +kernel) (by first | exact xb_nar _ | decide +kernel) (by first | exact xb_fit _ | decide +kernel) (by show 2 < 5; decide) dX0_begin_21 (fun H locs hP hS => ?_)
    have hP : va_P D vwCl (xw n ad (va_up en2 i (.inr (0, [.ref (ad (i + 1)), .ref (ad (i + 3)), .int (xb G1), .int (xI zz), .int (xI pl)])))) H := hP
    obtain ⟨en3, he3⟩ : ∃ z, z = va_up en2 i (.inr (0, [.ref (ad (i + 1)), .ref (ad (i + 3)), .int (xb G1), .int (xI zz), .int (xI pl)])) := ⟨_, rfl⟩
    rw [← he3] at hP
    have ho3 : en3 i = (.inr (0, [.ref (ad (i + 1)), .ref (ad (i + 3)), .int (xb G1), .int (xI zz), .int (xI pl)])) := by rw [he3, va_up_self]
    have hk4 := (show en3 j2 = en2 j2 from by rw [he3, va_up_ne _ _ (by omega)]).trans hq2.1
    have hk5 := (show en3 (i + 1) = en2 (i + 1) from by rw [he3, va_up_ne _ _ (by omega)]).trans hk.2.1.1
    have hoe : xO i (i + 1) en2 en3 := by rw [he3]; exact xO.rf.up (Nat.le_refl _) (Nat.lt_succ_self _)
    have hq2 := hq2.ko hoe (by omega)
    have hk : XK cA ad en3 i k h (sp_sep h2 k2) G1 zz pl := by rw [he3]; exact hk.st _ _ _
    have ho := ho.tr (hoe.mo (by omega) (by omega))
    refine lv_aload_n hx hb dX0_begin_24 rfl (lv_at hl 0 rfl) ?_
    refine x_iconst hx hb dX0_begin_25 ?_
    refine x_put (T := TX0) (N := 5) (ty := .int) hx hb hts uX0 tyX0 tyX0_ok nmX0 hown hK hP hD hS (i := i) (by omega) hk.1 rfl 4 (by decide) u_fl_RX0_41 rfl (by decide +kernel) rfl rfl (by show 4 < 5; decide) dX0_begin_26 (fun H locs hP hS => ?_)
    have hP : va_P D vwCl (xw n ad (va_up en3 i (.inr (0, [.ref (ad (i + 1)), .ref (ad (i + 3)), .int (xb G1), .int (xI zz), .int (xI 0)])))) H := hP
    obtain ⟨en6, he6⟩ : ∃ z, z = va_up en3 i (.inr (0, [.ref (ad (i + 1)), .ref (ad (i + 3)), .int (xb G1), .int (xI zz), .int (xI 0)])) := ⟨_, rfl⟩
    rw [← he6] at hP
    have ho6 : en6 i = (.inr (0, [.ref (ad (i + 1)), .ref (ad (i + 3)), .int (xb G1), .int (xI zz), .int (xI 0)])) := by rw [he6, va_up_self]
    have hk7 := (show en6 j2 = en3 j2 from by rw [he6, va_up_ne _ _ (by omega)]).trans hq2.1
    have hk8 := (show en6 (i + 1) = en3 (i + 1) from by rw [he6, va_up_ne _ _ (by omega)]).trans hk.2.1.1
    have hoe : xO i (i + 1) en3 en6 := by rw [he6]; exact xO.rf.up (Nat.le_refl _) (Nat.lt_succ_self _)
    have hq2 := hq2.ko hoe (by omega)
    have hk : XK cA ad en6 i k h (sp_sep h2 k2) G1 zz 0 := by rw [he6]; exact hk.st _ _ _
    have ho := ho.tr (hoe.mo (by omega) (by omega))
    refine lv_aload_n hx hb dX0_begin_29 rfl (lv_at hl 0 rfl) ?_
    refine x_iconst hx hb dX0_begin_30 ?_
    refine x_put (T := TX0) (N := 5) (ty := .boolean) hx hb hts uX0 tyX0 tyX0_ok nmX0 hown hK hP hD hS (i := i) (by omega) hk.1 rfl 3 (by decide) u_fl_RX0_22 rfl (by decide +kernel) (by first | exact xb_nar _ | decide +kernel) (by first | exact xb_fit _ | decide +kernel) (by show 3 < 5; decide) dX0_begin_31 (fun H locs hP hS => ?_)
    have hP : va_P D vwCl (xw n ad (va_up en6 i (.inr (0, [.ref (ad (i + 1)), .ref (ad (i + 3)), .int (xb G1), .int (xI 0), .int (xI 0)])))) H := hP
    obtain ⟨en9, he9⟩ : ∃ z, z = va_up en6 i (.inr (0, [.ref (ad (i + 1)), .ref (ad (i + 3)), .int (xb G1), .int (xI 0), .int (xI 0)])) := ⟨_, rfl⟩
    rw [← he9] at hP
    have ho9 : en9 i = (.inr (0, [.ref (ad (i + 1)), .ref (ad (i + 3)), .int (xb G1), .int (xI 0), .int (xI 0)])) := by rw [he9, va_up_self]
    have hk10 := (show en9 j2 = en6 j2 from by rw [he9, va_up_ne _ _ (by omega)]).trans hq2.1
    have hk11 := (show en9 (i + 1) = en6 (i + 1) from by rw [he9, va_up_ne _ _ (by omega)]).trans hk.2.1.1
    have hoe : xO i (i + 1) en6 en9 := by rw [he9]; exact xO.rf.up (Nat.le_refl _) (Nat.lt_succ_self _)
    have hq2 := hq2.ko hoe (by omega)
    have hk : XK cA ad en9 i k h (sp_sep h2 k2) G1 0 0 := by rw [he9]; exact hk.st _ _ _
    have ho := ho.tr (hoe.mo (by omega) (by omega))
    exact xe_v hx hb hrt hlocks hP hS (⟨hk, ho⟩) dX0_begin_34
  · exact absurd (by omega) hsp

set_option maxRecDepth 20000 in
theorem c_X0_giveToken (l : Launch) (D : va_G) (cA : Nat → ClassId) (n : Nat) (ad : Nat → Nat) (en : Nat → va_E) (sz : Nat) {i m : Nat} {f : Nat → Int} {S : Int → Prop} {G : Prop} {zz pl : Int} (hi : i + 3 < n) (hk : XK cA ad en i m f S G zz pl) (hpl : 0 ≤ pl ∧ pl ≤ (m : Int)) {j : Nat} {o : Option xRow} (hj : j + 2 < n) (hT : XT cA ad en j o) (hij : j + 2 < i ∨ i + 3 < j) : Met l yX0_giveToken (Cond.code yX0_giveToken cX0_giveToken 3 (some .int) :: xU) (xrm 4 86) (va_Pc [.ref (ad i), .ref (ad j)] (xM D cA n ad en sz)) (va_Qi (fun r u => ((m : Int) ≤ (sp_ts G S f (m : Int) pl) ∧ r = xI (-1006) ∧ XK cA ad u i m f S G 1 pl ∧ xO i (i + 4) en u) ∨ ((sp_ts G S f (m : Int) pl) < (m : Int) ∧ r = xI ((sp_te S f (m : Int) (sp_ts G S f (m : Int) pl)) - (sp_ts G S f (m : Int) pl)) ∧ ∃ v : Nat → va_E, (XK cA ad v i m f S G zz (sp_te S f (m : Int) (sp_ts G S f (m : Int) pl)) ∧ xO i (i + 4) en v) ∧ XT cA ad u j (some (((sp_te S f (m : Int) (sp_ts G S f (m : Int) pl)) - (sp_ts G S f (m : Int) pl)).toNat, fun t => f (Int.toNat (sp_ts G S f (m : Int) pl) + t))) ∧ xO j (j + 3) v u)) (xE D n ad) (xA n ad sz)) 0 0 (xA n ad sz) := by
  refine xmet (by decide) (Nat.le_of_ble_eq_true rfl) (fun p e s mm args below meth c ls hx hb hrt hml hown hts hlocks hname hB hl => ?_)
  obtain ⟨⟨hP, hK, hN⟩, hsz, hDt⟩ := hB
  have hD : xD (xA n ad sz) n ad := xD_self hDt sz
  have hA : ∀ q : Nat, s.heap.size ≤ q → xA n ad sz q := fun q h => Or.inr (by rw [← hsz]; exact h)
  have hS : va_S (xA n ad sz) s.heap s.heap [] := va_S.rf
  have hown : s.vm.findClass RX0 = some mm.cls := hown
  have hl : lv_has ls 3 [(0, .ref (ad i)), (1, .ref (ad j))] := hl
  have hm := hk.2.1.2.2.1
  obtain ⟨zm, m2, f2, hT1, hr2⟩ := hT.any
  refine lv_aload_n hx hb dX0_giveToken_0 rfl (lv_at hl 0 rfl) ?_
  refine lv_aload_n hx hb dX0_giveToken_1 rfl (lv_at hl 0 rfl) ?_
  refine x_get (T := TX0) (N := 5) hx hb hts uX0 hown hK hP (i := i) (by omega) hk.1 rfl 4 (by decide) u_fl_RX0_41 rfl dX0_giveToken_2 ?_
  have hts5 := sp_ts_b (G := G) (S := S) (f := f) (m := (m : Int)) (a := pl) (by omega)
  refine xv_i (i := i) (As := [.int (xI pl)]) (rest := []) ⟨hx, hb, hml, hown, hts⟩ hl.1 (c_X0_tokenStart l D cA n ad en (by omega) hk pl (by omega)) k_X0_tokenStart u_ml_RX0_48 hK hN hP (by omega) hk.1 rfl rfl rfl rfl (Nat.le_of_ble_eq_true rfl) ⟨Nat.le_of_ble_eq_true rfl, Nat.le_of_ble_eq_true rfl⟩ ⟨Nat.le_of_ble_eq_true rfl, Nat.le_of_ble_eq_true rfl⟩ dX0_giveToken_5 ?_
  refine lv_istore_n (lv' := [(2, .int (xI (sp_ts G S f (m : Int) pl))), (0, .ref (ad i)), (1, .ref (ad j))]) hx hb dX0_giveToken_8 rfl hl (by decide) rfl (fun ls hl => ?_)
  refine lv_iload_n hx hb dX0_giveToken_9 rfl (lv_at hl 0 rfl) ?_
  refine lv_aload_n hx hb dX0_giveToken_10 rfl (lv_at hl 1 rfl) ?_
  refine x_get (T := TX0) (N := 5) hx hb hts uX0 hown hK hP (i := i) (by omega) hk.1 rfl 0 (by decide) u_fl_RX0_12 rfl dX0_giveToken_11 ?_
  refine x_getn (T := TX2) (N := 2) hx hb hts uX2 hown hN hK hP (i := i + 1) (by omega) hk.2.1.1 rfl 1 (by decide) (by simp only [xNest, List.mem_cons]; exact Or.inl rfl) rfl dX0_giveToken_14 ?_
  refine x_icmp_lt (tgt := 29) hx hb dX0_giveToken_17 (by decide) (by omega) (fun c_17 => ?_) (fun c_17 => ?_)
  · refine lv_aload_n hx hb dX0_giveToken_29 rfl (lv_at hl 1 rfl) ?_
    refine lv_aload_n hx hb dX0_giveToken_30 rfl (lv_at hl 1 rfl) ?_
    refine lv_iload_n hx hb dX0_giveToken_31 rfl (lv_at hl 0 rfl) ?_
    have hte32 := sp_te_b (S := S) (f := f) (m := (m : Int)) (a := (sp_ts G S f (m : Int) pl)) (by omega)
    refine xv_i (i := i) (As := [.int (xI (sp_ts G S f (m : Int) pl))]) (rest := [.ref (ad i)]) ⟨hx, hb, hml, hown, hts⟩ hl.1 (c_X0_tokenEnd l D cA n ad en (by omega) hk (sp_ts G S f (m : Int) pl) (by omega)) k_X0_tokenEnd u_ml_RX0_51 hK hN hP (by omega) hk.1 rfl rfl rfl rfl (Nat.le_of_ble_eq_true rfl) ⟨Nat.le_of_ble_eq_true rfl, Nat.le_of_ble_eq_true rfl⟩ ⟨Nat.le_of_ble_eq_true rfl, Nat.le_of_ble_eq_true rfl⟩ dX0_giveToken_32 ?_
    refine x_put (T := TX0) (N := 5) (ty := .int) hx hb hts uX0 tyX0 tyX0_ok nmX0 hown hK hP hD hS (i := i) (by omega) hk.1 rfl 4 (by decide) u_fl_RX0_41 rfl (by decide +kernel) rfl rfl (by show 4 < 5; decide) dX0_giveToken_35 (fun H locs hP hS => ?_)
    have hP : va_P D vwCl (xw n ad (va_up en i (.inr (0, [.ref (ad (i + 1)), .ref (ad (i + 3)), .int (xb G), .int (xI zz), .int (xI (sp_te S f (m : Int) (sp_ts G S f (m : Int) pl)))])))) H := hP
    obtain ⟨en1, he1⟩ : ∃ z, z = va_up en i (.inr (0, [.ref (ad (i + 1)), .ref (ad (i + 3)), .int (xb G), .int (xI zz), .int (xI (sp_te S f (m : Int) (sp_ts G S f (m : Int) pl)))])) := ⟨_, rfl⟩
    rw [← he1] at hP
    have ho1 : en1 i = (.inr (0, [.ref (ad (i + 1)), .ref (ad (i + 3)), .int (xb G), .int (xI zz), .int (xI (sp_te S f (m : Int) (sp_ts G S f (m : Int) pl)))])) := by rw [he1, va_up_self]
    have hk2 := (show en1 (i + 1) = en (i + 1) from by rw [he1, va_up_ne _ _ (by omega)]).trans hk.2.1.1
    have hk3 := (show en1 j = en j from by rw [he1, va_up_ne _ _ (by omega)]).trans hT1
    have hoe : xO i (i + 1) en en1 := by rw [he1]; exact xO.rf.up (Nat.le_refl _) (Nat.lt_succ_self _)
    have hk : XK cA ad en1 i m f S G zz (sp_te S f (m : Int) (sp_ts G S f (m : Int) pl)) := by rw [he1]; exact hk.st _ _ _
    have hT := hT.ko hoe (by omega)
    have ho := hoe
    refine lv_aload_n hx hb dX0_giveToken_38 rfl (lv_at hl 2 rfl) ?_
    refine lv_aload_n hx hb dX0_giveToken_39 rfl (lv_at hl 1 rfl) ?_
    refine x_get (T := TX0) (N := 5) hx hb hts uX0 hown hK hP (i := i) (by omega) hk.1 rfl 0 (by decide) u_fl_RX0_12 rfl dX0_giveToken_40 ?_
    refine lv_iload_n hx hb dX0_giveToken_43 rfl (lv_at hl 0 rfl) ?_
    refine lv_aload_n hx hb dX0_giveToken_44 rfl (lv_at hl 1 rfl) ?_
    refine x_get (T := TX0) (N := 5) hx hb hts uX0 hown hK hP (i := i) (by omega) hk.1 rfl 4 (by decide) u_fl_RX0_41 rfl dX0_giveToken_45 ?_
    refine xm_i (i := j) (As := [.ref (ad (i + 1)), .int (xI (sp_ts G S f (m : Int) pl)), .int (xI (sp_te S f (m : Int) (sp_ts G S f (m : Int) pl)))]) (rest := []) ⟨hx, hb, hml, hown, hts⟩ hl.1 (c_X3_become l D cA n ad en1 _ (by omega) hT (by omega) hk.2.1 (by omega) (sp_ts G S f (m : Int) pl) (sp_te S f (m : Int) (sp_ts G S f (m : Int) pl)) (by omega) (by omega)) k_X3_become u_ml_RX0_54 hK hN hP (by omega) hk3 rfl rfl rfl rfl (Nat.le_of_ble_eq_true rfl) ⟨Nat.le_of_ble_eq_true rfl, Nat.le_of_ble_eq_true rfl⟩ ⟨Nat.le_of_ble_eq_true rfl, Nat.le_of_ble_eq_true rfl⟩ dX0_giveToken_48 hD hS hA (fun r4 en4 H locs hp4 hP hS => ?_)
    rcases hp4 with ⟨hsp, hrv, hx1, hoc⟩ | ⟨hsp, hrv, hu⟩
    · subst hrv
      exact xe_i hx hb hrt hlocks hP hS (Or.inr ⟨by omega, rfl, en1, ⟨hk, ho.mo (by omega) (by omega)⟩, hx1, hoc⟩) dX0_giveToken_51
    · exact absurd (by omega) hsp
  · refine lv_aload_n hx hb dX0_giveToken_20 rfl (lv_at hl 1 rfl) ?_
    refine x_iconst hx hb dX0_giveToken_21 ?_
    refine x_put (T := TX0) (N := 5) (ty := .boolean) hx hb hts uX0 tyX0 tyX0_ok nmX0 hown hK hP hD hS (i := i) (by omega) hk.1 rfl 3 (by decide) u_fl_RX0_22 rfl (by decide +kernel) (by first | exact xb_nar _ | decide +kernel) (by first | exact xb_fit _ | decide +kernel) (by show 3 < 5; decide) dX0_giveToken_22 (fun H locs hP hS => ?_)
    have hP : va_P D vwCl (xw n ad (va_up en i (.inr (0, [.ref (ad (i + 1)), .ref (ad (i + 3)), .int (xb G), .int (xI 1), .int (xI pl)])))) H := hP
    obtain ⟨en5, he5⟩ : ∃ z, z = va_up en i (.inr (0, [.ref (ad (i + 1)), .ref (ad (i + 3)), .int (xb G), .int (xI 1), .int (xI pl)])) := ⟨_, rfl⟩
    rw [← he5] at hP
    have ho5 : en5 i = (.inr (0, [.ref (ad (i + 1)), .ref (ad (i + 3)), .int (xb G), .int (xI 1), .int (xI pl)])) := by rw [he5, va_up_self]
    have hk6 := (show en5 (i + 1) = en (i + 1) from by rw [he5, va_up_ne _ _ (by omega)]).trans hk.2.1.1
    have hk7 := (show en5 j = en j from by rw [he5, va_up_ne _ _ (by omega)]).trans hT1
    have hoe : xO i (i + 1) en en5 := by rw [he5]; exact xO.rf.up (Nat.le_refl _) (Nat.lt_succ_self _)
    have hk : XK cA ad en5 i m f S G 1 pl := by rw [he5]; exact hk.st _ _ _
    have hT := hT.ko hoe (by omega)
    have ho := hoe
    refine x_sipush hx hb dX0_giveToken_25 (by decide +kernel) ?_
    exact xe_i hx hb hrt hlocks hP hS (Or.inl ⟨by omega, rfl, hk, ho.mo (by omega) (by omega)⟩) dX0_giveToken_28
