/-! texts, parts, cutters: their cells -/
theorem XT.any {cA : Nat → ClassId} {ad : Nat → Nat} {en : Nat → va_E} {i : Nat} {o : Option xRow} (h : XT cA ad en i o) : ∃ (z : Int) (m : Nat) (f : Nat → Int), en i = .inr (3, [.ref (ad (i + 1)), .int (xI z)]) ∧ XR cA ad en (i + 1) m f := by
  cases o with
  | none => exact ⟨_, _, _, h.1, h.2.choose_spec.choose_spec⟩
  | some r => exact ⟨_, _, _, h.1, h.2⟩
/-- a cutter's cells -/
def XK (cA : Nat → ClassId) (ad : Nat → Nat) (en : Nat → va_E) (i m : Nat) (f : Nat → Int) (S : Int → Prop) (G : Prop) (z pl : Int) : Prop :=
  en i = .inr (0, [.ref (ad (i + 1)), .ref (ad (i + 3)), .int (xb G), .int (xI z), .int (xI pl)]) ∧ XR cA ad en (i + 1) m f ∧ ∃ g : Nat → Int32, en (i + 3) = .inl (cA 1, 256, .inl g) ∧ ∀ k : Nat, k < 256 → g k = xb (S k)
theorem XK.ko {cA : Nat → ClassId} {ad : Nat → Nat} {en en' : Nat → va_E} {i m a b : Nat} {f : Nat → Int} {S : Int → Prop} {G : Prop} {z pl : Int} (h : XK cA ad en i m f S G z pl) (ho : xO a b en en') (hi : i + 3 < a ∨ b ≤ i) : XK cA ad en' i m f S G z pl := by
  obtain ⟨h1, h2, g, h3, h4⟩ := h
  exact ⟨(ho i (by omega)).trans h1, h2.ko ho (by omega), g, (ho _ (by omega)).trans h3, h4⟩
/-- the parts' cells but for their row -/
def XP0 (cA : Nat → ClassId) (ad : Nat → Nat) (en : Nat → va_E) (pn : Nat) (ps pe : Nat → Nat) : Prop :=
  en 4 = .inr (1, [.ref (ad 5), .ref (ad 7), .ref (ad 8), .int (xI pn)]) ∧ (∃ g : Nat → Int32, en 7 = .inl (cA 0, 201, .inl g) ∧ ∀ k : Nat, k < pn → g k = xI (ps k)) ∧ (∃ g : Nat → Int32, en 8 = .inl (cA 0, 201, .inl g) ∧ ∀ k : Nat, k < pn → g k = xI (pe k)) ∧ pn ≤ 201
theorem XP0.ko {cA : Nat → ClassId} {ad : Nat → Nat} {en en' : Nat → va_E} {pn a b : Nat} {ps pe : Nat → Nat} (h : XP0 cA ad en pn ps pe) (ho : xO a b en en') (hi : 8 < a ∨ b ≤ 4 ∨ (4 < a ∧ b ≤ 7)) : XP0 cA ad en' pn ps pe := by
  obtain ⟨h1, ⟨g, h2, h3⟩, ⟨g2, h4, h5⟩, h6⟩ := h
  exact ⟨(ho 4 (by omega)).trans h1, ⟨g, (ho 7 (by omega)).trans h2, h3⟩, ⟨g2, (ho 8 (by omega)).trans h4, h5⟩, h6⟩
theorem XP.to0 {cA : Nat → ClassId} {ad : Nat → Nat} {en : Nat → va_E} {P : xPts} (h : XP cA ad en P) : XP0 cA ad en P.1 P.2.1 P.2.2.1 := ⟨h.1, h.2.2.1, h.2.2.2.1, h.2.2.2.2.1⟩

set_option maxRecDepth 20000 in
theorem c_X3_become (l : Launch) (D : va_G) (cA : Nat → ClassId) (n : Nat) (ad : Nat → Nat) (en : Nat → va_E) (sz : Nat) {i : Nat} {o : Option xRow} (hi : i + 2 < n) (hT : XT cA ad en i o) {j k : Nat} {h : Nat → Int} (hj : j + 1 < n) (hq : XR cA ad en j k h) (hij : j = i + 1 ∨ j + 1 < i ∨ i + 2 < j) (z1 z2 : Int) (hz1 : -2147483648 ≤ z1 ∧ z1 ≤ 2147483647) (hz2 : -2147483648 ≤ z2 ∧ z2 ≤ 2147483647) : Met l yX3_become (Cond.code yX3_become cX3_become 5 (some .int) :: xU) (xrm 2 49) (va_Pc [.ref (ad i), .ref (ad j), .int (xI z1), .int (xI z2)] (xM D cA n ad en sz)) (va_Qi (fun r u => ((0 ≤ z1 ∧ z1 ≤ z2 ∧ z2 ≤ (k : Int)) ∧ r = xI (z2 - z1) ∧ XT cA ad u i (some ((z2 - z1).toNat, fun t => h (z1.toNat + t))) ∧ xO i (i + 3) en u) ∨ (¬ (0 ≤ z1 ∧ z1 ≤ z2 ∧ z2 ≤ (k : Int)) ∧ r = xI (-1005) ∧ u = en)) (xE D n ad) (xA n ad sz)) 0 0 (xA n ad sz) := by
  refine xmet (by decide) (Nat.le_of_ble_eq_true rfl) (fun p e s mm args below meth c ls hx hb hrt hml hown hts hlocks hname hB hl => ?_)
  obtain ⟨⟨hP, hK, hN⟩, hsz, hDt⟩ := hB
  have hD : xD (xA n ad sz) n ad := xD_self hDt sz
  have hA : ∀ q : Nat, s.heap.size ≤ q → xA n ad sz q := fun q h => Or.inr (by rw [← hsz]; exact h)
  have hS : va_S (xA n ad sz) s.heap s.heap [] := va_S.rf
  have hown : s.vm.findClass RX3 = some mm.cls := hown
  have hl : lv_has ls 5 [(0, .ref (ad i)), (1, .ref (ad j)), (2, .int (xI z1)), (3, .int (xI z2))] := hl
  obtain ⟨zm, m, f, hT1, hr⟩ := hT.any
  have hm2 := hq.2.2.1
  refine lv_aload_n hx hb dX3_become_0 rfl (lv_at hl 0 rfl) ?_
  refine x_get (T := TX3) (N := 2) hx hb hts uX3 hown hK hP (i := i) (by omega) hT1 rfl 0 (by decide) u_fl_RX3_10 rfl dX3_become_1 ?_
  refine lv_aload_n hx hb dX3_become_4 rfl (lv_at hl 1 rfl) ?_
  refine lv_iload_n hx hb dX3_become_5 rfl (lv_at hl 2 rfl) ?_
  refine lv_iload_n hx hb dX3_become_6 rfl (lv_at hl 3 rfl) ?_
  refine xm_i (i := i + 1) (As := [.ref (ad j), .int (xI z1), .int (xI z2)]) (rest := []) ⟨hx, hb, hml, hown, hts⟩ hl.1 (c_X2_copy l D cA n ad en _ (by omega) hr hj hq (by omega) z1 z2 hz1 hz2) k_X2_copy u_ml_RX3_20 hK hN hP (by omega) hr.1 rfl rfl rfl rfl (Nat.le_of_ble_eq_true rfl) ⟨Nat.le_of_ble_eq_true rfl, Nat.le_of_ble_eq_true rfl⟩ ⟨Nat.le_of_ble_eq_true rfl, Nat.le_of_ble_eq_true rfl⟩ dX3_become_7 hD hS hA (fun r1 en1 H locs hp1 hP hS => ?_)
  rcases hp1 with ⟨hsp, hrv, hx1, ho⟩ | ⟨hsp, hrv, hu⟩
  · subst hrv
    have hT1 := (ho i (by omega)).trans hT1
    refine lv_istore (lv' := [(4, .int (xI (z2 - z1))), (0, .ref (ad i)), (1, .ref (ad j)), (2, .int (xI z1)), (3, .int (xI z2))]) hx hb dX3_become_10 hl (by decide) rfl (fun ls hl => ?_)
    refine lv_iload hx hb dX3_become_12 (lv_at hl 0 rfl) ?_
    refine x_if_lt (tgt := 22) hx hb dX3_become_14 (by decide) (by omega) (fun c_14 => absurd c_14 (by omega)) (fun c_14 => ?_)
    refine lv_aload_n hx hb dX3_become_17 rfl (lv_at hl 1 rfl) ?_
    refine x_iconst hx hb dX3_become_18 ?_
    refine x_put (T := TX3) (N := 2) (ty := .boolean) hx hb hts uX3 tyX3 tyX3_ok nmX3 hown hK hP hD hS (i := i) (by omega) hT1 rfl 1 (by decide) u_fl_RX3_16 rfl (by decide +kernel) (by first | exact xb_nar _ | decide +kernel) (by first | exact xb_fit _ | decide +kernel) (by show 1 < 2; decide) dX3_become_19 (fun H locs hP hS => ?_)
    have hP : va_P D vwCl (xw n ad (va_up en1 i (.inr (3, [.ref (ad (i + 1)), .int (xI 0)])))) H := hP
    obtain ⟨en2, he2⟩ : ∃ z, z = va_up en1 i (.inr (3, [.ref (ad (i + 1)), .int (xI 0)])) := ⟨_, rfl⟩
    rw [← he2] at hP
    have ho2 : en2 i = (.inr (3, [.ref (ad (i + 1)), .int (xI 0)])) := by rw [he2, va_up_self]
    refine lv_iload hx hb dX3_become_22 (lv_at hl 0 rfl) ?_
    subst he2
    exact xe_i hx hb hrt hlocks hP hS (Or.inl ⟨hsp, rfl, ⟨va_up_self _ _ _, hx1.kp (va_up_ne _ _ (by omega)) (va_up_ne _ _ (by omega))⟩, (ho.mo (by omega) (by omega)).up (by omega) (by omega)⟩) dX3_become_24
  · subst hrv
    rw [hu] at hP
    refine lv_istore (lv' := [(4, .int (xI (-1005))), (0, .ref (ad i)), (1, .ref (ad j)), (2, .int (xI z1)), (3, .int (xI z2))]) hx hb dX3_become_10 hl (by decide) rfl (fun ls hl => ?_)
    refine lv_iload hx hb dX3_become_12 (lv_at hl 0 rfl) ?_
    refine x_if_lt (tgt := 22) hx hb dX3_become_14 (by decide) (by omega) (fun c_14 => ?_) (fun c_14 => absurd c_14 (by omega))
    refine lv_iload hx hb dX3_become_22 (lv_at hl 0 rfl) ?_
    exact xe_i hx hb hrt hlocks hP hS (Or.inr ⟨hsp, rfl, rfl⟩) dX3_become_24

set_option maxRecDepth 20000 in
theorem c_X1_has (l : Launch) (D : va_G) (cA : Nat → ClassId) (n : Nat) (ad : Nat → Nat) (en : Nat → va_E) {pn : Nat} {ps pe : Nat → Nat} (hn : 9 ≤ n) (hp0 : XP0 cA ad en pn ps pe) (z1 : Int) (hz1 : -2147483648 ≤ z1 ∧ z1 ≤ 2147483647) : Met l yX1_has (Cond.code yX1_has cX1_has 2 (some .boolean) :: xU) (xrm 0 0) (va_Pc [.ref (ad 4), .int (xI z1)] (xB D cA n ad en)) (vp_Si (fun z => z = xb (0 ≤ z1 ∧ z1 < (pn : Int)))) 0 0 (fun _ => False) := by
  refine xmet (by decide) (Nat.le_of_ble_eq_true rfl) (fun p e s mm args below meth c ls hx hb hrt hml hown hts hlocks hname hB hl => ?_)
  obtain ⟨hP, hK, hN⟩ := hB
  have hl : lv_has ls 2 [(0, .ref (ad 4)), (1, .int (xI z1))] := hl
  have hpn := hp0.2.2.2
  refine lv_iload_n hx hb dX1_has_0 rfl (lv_at hl 1 rfl) ?_
  refine x_if_lt (tgt := 16) hx hb dX1_has_1 (by decide) (by omega) (fun c_1 => ?_) (fun c_1 => ?_)
  · refine x_iconst hx hb dX1_has_16 ?_
    exact xr_z hx hb hrt hlocks (xb_0 (by omega)) dX1_has_17
  · refine lv_iload_n hx hb dX1_has_4 rfl (lv_at hl 1 rfl) ?_
    refine lv_aload_n hx hb dX1_has_5 rfl (lv_at hl 0 rfl) ?_
    refine x_get (T := TX1) (N := 4) hx hb hts uX1 hown hK hP (i := 4) (by omega) hp0.1 rfl 3 (by decide) u_fl_RX1_25 rfl dX1_has_6 ?_
    refine x_icmp_ge (tgt := 16) hx hb dX1_has_9 (by decide) (by omega) (fun c_9 => ?_) (fun c_9 => ?_)
    · refine x_iconst hx hb dX1_has_16 ?_
      exact xr_z hx hb hrt hlocks (xb_0 (by omega)) dX1_has_17
    · refine x_iconst hx hb dX1_has_12 ?_
      refine lv_goto (tgt := 17) hx hb dX1_has_13 (by decide) ?_
      exact xr_z hx hb hrt hlocks (xb_1 (by omega)) dX1_has_17

set_option maxRecDepth 20000 in
theorem c_X1_start (l : Launch) (D : va_G) (cA : Nat → ClassId) (n : Nat) (ad : Nat → Nat) (en : Nat → va_E) {pn : Nat} {ps pe : Nat → Nat} (hn : 9 ≤ n) (hp0 : XP0 cA ad en pn ps pe) (hb1 : ∀ k : Nat, k < pn → ps k ≤ 200) (z1 : Int) (h1 : 0 ≤ z1 ∧ z1 < (pn : Int)) : Met l yX1_start (Cond.code yX1_start cX1_start 2 (some .int) :: xU) (xrm 1 21) (va_Pc [.ref (ad 4), .int (xI z1)] (xB D cA n ad en)) (vp_Si (fun z => z = xI ((ps z1.toNat : Nat) : Int))) 0 0 (fun _ => False) := by
  refine xmet (by decide) (Nat.le_of_ble_eq_true rfl) (fun p e s mm args below meth c ls hx hb hrt hml hown hts hlocks hname hB hl => ?_)
  obtain ⟨hP, hK, hN⟩ := hB
  have hl : lv_has ls 2 [(0, .ref (ad 4)), (1, .int (xI z1))] := hl
  have hpn := hp0.2.2.2
  obtain ⟨g, hg1, hg2⟩ := hp0.2.1
  refine lv_aload_n hx hb dX1_start_0 rfl (lv_at hl 0 rfl) ?_
  refine lv_iload_n hx hb dX1_start_1 rfl (lv_at hl 1 rfl) ?_
  refine xv_i (i := 4) (As := [.int (xI z1)]) (rest := []) ⟨hx, hb, hml, hown, hts⟩ hl.1 (c_X1_has l D cA n ad en (by omega) hp0 z1 (by omega)) k_X1_has u_ml_RX1_29 hK hN hP (by omega) hp0.1 rfl rfl rfl rfl (Nat.le_of_ble_eq_true rfl) ⟨Nat.le_of_ble_eq_true rfl, Nat.le_of_ble_eq_true rfl⟩ ⟨Nat.le_of_ble_eq_true rfl, Nat.le_of_ble_eq_true rfl⟩ dX1_start_2 ?_
  refine x_ifb_eq (tgt := 17) hx hb dX1_start_5 (by decide)  (fun c_5 => absurd h1 c_5) (fun c_5 => ?_)
  refine lv_aload_n hx hb dX1_start_8 rfl (lv_at hl 0 rfl) ?_
  refine x_get (T := TX1) (N := 4) hx hb hts uX1 hown hK hP (i := 4) (by omega) hp0.1 rfl 1 (by decide) u_fl_RX1_18 rfl dX1_start_9 ?_
  refine lv_iload_n hx hb dX1_start_12 rfl (lv_at hl 1 rfl) ?_
  refine x_ild hx hb hK hP (i := 7) (by omega) hg1 (x := ((ps (Int.toNat z1) : Nat) : Int)) (by omega) (hg2 _ (by omega)) dX1_start_13 ?_
  refine lv_goto (tgt := 18) hx hb dX1_start_14 (by decide) ?_
  exact xr_i hx hb hrt hlocks (rfl) dX1_start_18

set_option maxRecDepth 20000 in
theorem c_X1_end (l : Launch) (D : va_G) (cA : Nat → ClassId) (n : Nat) (ad : Nat → Nat) (en : Nat → va_E) {pn : Nat} {ps pe : Nat → Nat} (hn : 9 ≤ n) (hp0 : XP0 cA ad en pn ps pe) (hb1 : ∀ k : Nat, k < pn → pe k ≤ 200) (z1 : Int) (h1 : 0 ≤ z1 ∧ z1 < (pn : Int)) : Met l yX1_end (Cond.code yX1_end cX1_end 2 (some .int) :: xU) (xrm 1 21) (va_Pc [.ref (ad 4), .int (xI z1)] (xB D cA n ad en)) (vp_Si (fun z => z = xI ((pe z1.toNat : Nat) : Int))) 0 0 (fun _ => False) := by
  refine xmet (by decide) (Nat.le_of_ble_eq_true rfl) (fun p e s mm args below meth c ls hx hb hrt hml hown hts hlocks hname hB hl => ?_)
  obtain ⟨hP, hK, hN⟩ := hB
  have hl : lv_has ls 2 [(0, .ref (ad 4)), (1, .int (xI z1))] := hl
  have hpn := hp0.2.2.2
  obtain ⟨g, hg1, hg2⟩ := hp0.2.2.1
  refine lv_aload_n hx hb dX1_end_0 rfl (lv_at hl 0 rfl) ?_
  refine lv_iload_n hx hb dX1_end_1 rfl (lv_at hl 1 rfl) ?_
  refine xv_i (i := 4) (As := [.int (xI z1)]) (rest := []) ⟨hx, hb, hml, hown, hts⟩ hl.1 (c_X1_has l D cA n ad en (by omega) hp0 z1 (by omega)) k_X1_has u_ml_RX1_29 hK hN hP (by omega) hp0.1 rfl rfl rfl rfl (Nat.le_of_ble_eq_true rfl) ⟨Nat.le_of_ble_eq_true rfl, Nat.le_of_ble_eq_true rfl⟩ ⟨Nat.le_of_ble_eq_true rfl, Nat.le_of_ble_eq_true rfl⟩ dX1_end_2 ?_
  refine x_ifb_eq (tgt := 17) hx hb dX1_end_5 (by decide)  (fun c_5 => absurd h1 c_5) (fun c_5 => ?_)
  refine lv_aload_n hx hb dX1_end_8 rfl (lv_at hl 0 rfl) ?_
  refine x_get (T := TX1) (N := 4) hx hb hts uX1 hown hK hP (i := 4) (by omega) hp0.1 rfl 2 (by decide) u_fl_RX1_22 rfl dX1_end_9 ?_
  refine lv_iload_n hx hb dX1_end_12 rfl (lv_at hl 1 rfl) ?_
  refine x_ild hx hb hK hP (i := 8) (by omega) hg1 (x := ((pe (Int.toNat z1) : Nat) : Int)) (by omega) (hg2 _ (by omega)) dX1_end_13 ?_
  refine lv_goto (tgt := 18) hx hb dX1_end_14 (by decide) ?_
  exact xr_i hx hb hrt hlocks (rfl) dX1_end_18

set_option maxRecDepth 20000 in
theorem c_X1_mayPart (l : Launch) (D : va_G) (cA : Nat → ClassId) (n : Nat) (ad : Nat → Nat) (en : Nat → va_E) {pn : Nat} {ps pe : Nat → Nat} (hn : 9 ≤ n) (hp0 : XP0 cA ad en pn ps pe) (z1 : Int) (hz1 : -2147483648 ≤ z1 ∧ z1 ≤ 2147483647) : Met l yX1_mayPart (Cond.code yX1_mayPart cX1_mayPart 2 (some .boolean) :: xU) (xrm 0 0) (va_Pc [.ref (ad 4), .int (xI z1)] (xB D cA n ad en)) (vp_Si (fun z => z = xb (z1 ≤ 0 ∨ (pn : Int) < z1 - 1))) 0 0 (fun _ => False) := by
  refine xmet (by decide) (Nat.le_of_ble_eq_true rfl) (fun p e s mm args below meth c ls hx hb hrt hml hown hts hlocks hname hB hl => ?_)
  obtain ⟨hP, hK, hN⟩ := hB
  have hl : lv_has ls 2 [(0, .ref (ad 4)), (1, .int (xI z1))] := hl
  have hpn := hp0.2.2.2
  refine lv_iload_n hx hb dX1_mayPart_0 rfl (lv_at hl 1 rfl) ?_
  refine x_if_le (tgt := 14) hx hb dX1_mayPart_1 (by decide) (by omega) (fun c_1 => ?_) (fun c_1 => ?_)
  · refine x_iconst hx hb dX1_mayPart_14 ?_
    refine lv_goto (tgt := 19) hx hb dX1_mayPart_15 (by decide) ?_
    exact xr_z hx hb hrt hlocks (xb_1 (by omega)) dX1_mayPart_19
  · refine lv_aload_n hx hb dX1_mayPart_4 rfl (lv_at hl 0 rfl) ?_
    refine x_get (T := TX1) (N := 4) hx hb hts uX1 hown hK hP (i := 4) (by omega) hp0.1 rfl 3 (by decide) u_fl_RX1_25 rfl dX1_mayPart_5 ?_
    refine lv_iload_n hx hb dX1_mayPart_8 rfl (lv_at hl 1 rfl) ?_
    refine x_iconst hx hb dX1_mayPart_9 ?_
    refine x_isub hx hb dX1_mayPart_10 ?_
    refine x_icmp_ge (tgt := 18) hx hb dX1_mayPart_11 (by decide) (by omega) (fun c_11 => ?_) (fun c_11 => ?_)
    · refine x_iconst hx hb dX1_mayPart_18 ?_
      exact xr_z hx hb hrt hlocks (xb_0 (by omega)) dX1_mayPart_19
    · refine x_iconst hx hb dX1_mayPart_14 ?_
      refine lv_goto (tgt := 19) hx hb dX1_mayPart_15 (by decide) ?_
      exact xr_z hx hb hrt hlocks (xb_1 (by omega)) dX1_mayPart_19

set_option maxRecDepth 20000 in
theorem c_X1_addPart (l : Launch) (D : va_G) (cA : Nat → ClassId) (n : Nat) (ad : Nat → Nat) (en : Nat → va_E) (sz : Nat) {pn : Nat} {ps pe : Nat → Nat} (hn : 9 ≤ n) (hp0 : XP0 cA ad en pn ps pe) (hlt : pn < 201) (a1 a2 : Nat) (h1 : a1 ≤ 200) (h2 : a2 ≤ 200) : Met l yX1_addPart (Cond.code yX1_addPart cX1_addPart 3 none :: xU) (xrm 0 0) (va_Pc [.ref (ad 4), .int (xI (a1 : Int)), .int (xI (a2 : Int))] (xM D cA n ad en sz)) (va_Qv (fun u => XP0 cA ad u (pn + 1) (sp_up ps pn a1) (sp_up pe pn a2) ∧ ∀ q : Nat, q ≠ 4 → q ≠ 7 → q ≠ 8 → u q = en q) (xE D n ad) (xA n ad sz)) 0 0 (xA n ad sz) := by
  refine xmet (by decide) (Nat.le_of_ble_eq_true rfl) (fun p e s mm args below meth c ls hx hb hrt hml hown hts hlocks hname hB hl => ?_)
  obtain ⟨⟨hP, hK, hN⟩, hsz, hDt⟩ := hB
  have hD : xD (xA n ad sz) n ad := xD_self hDt sz
  have hA : ∀ q : Nat, s.heap.size ≤ q → xA n ad sz q := fun q h => Or.inr (by rw [← hsz]; exact h)
  have hS : va_S (xA n ad sz) s.heap s.heap [] := va_S.rf
  have hown : s.vm.findClass RX1 = some mm.cls := hown
  have hl : lv_has ls 3 [(0, .ref (ad 4)), (1, .int (xI (a1 : Int))), (2, .int (xI (a2 : Int)))] := hl
  have hpn := hp0.2.2.2
  obtain ⟨g, hg1, hg2⟩ := hp0.2.1
  obtain ⟨w, hw1, hw2⟩ := hp0.2.2.1
  refine lv_aload_n hx hb dX1_addPart_0 rfl (lv_at hl 0 rfl) ?_
  refine x_get (T := TX1) (N := 4) hx hb hts uX1 hown hK hP (i := 4) (by omega) hp0.1 rfl 3 (by decide) u_fl_RX1_25 rfl dX1_addPart_1 ?_
  refine lv_aload_n hx hb dX1_addPart_4 rfl (lv_at hl 0 rfl) ?_
  refine x_get (T := TX1) (N := 4) hx hb hts uX1 hown hK hP (i := 4) (by omega) hp0.1 rfl 1 (by decide) u_fl_RX1_18 rfl dX1_addPart_5 ?_
  refine x_alen hx hb hK hP (i := 7) (by omega) 0 hg1 rfl dX1_addPart_8 ?_
  refine x_icmp_ge (tgt := 54) hx hb dX1_addPart_9 (by decide) (by omega) (fun c_9 => absurd c_9 (by omega)) (fun c_9 => ?_)
  refine lv_aload_n hx hb dX1_addPart_12 rfl (lv_at hl 0 rfl) ?_
  refine x_get (T := TX1) (N := 4) hx hb hts uX1 hown hK hP (i := 4) (by omega) hp0.1 rfl 3 (by decide) u_fl_RX1_25 rfl dX1_addPart_13 ?_
  refine lv_aload_n hx hb dX1_addPart_16 rfl (lv_at hl 0 rfl) ?_
  refine x_get (T := TX1) (N := 4) hx hb hts uX1 hown hK hP (i := 4) (by omega) hp0.1 rfl 2 (by decide) u_fl_RX1_22 rfl dX1_addPart_17 ?_
  refine x_alen hx hb hK hP (i := 8) (by omega) 0 hw1 rfl dX1_addPart_20 ?_
  refine x_icmp_ge (tgt := 54) hx hb dX1_addPart_21 (by decide) (by omega) (fun c_21 => absurd c_21 (by omega)) (fun c_21 => ?_)
  refine lv_aload_n hx hb dX1_addPart_24 rfl (lv_at hl 0 rfl) ?_
  refine x_get (T := TX1) (N := 4) hx hb hts uX1 hown hK hP (i := 4) (by omega) hp0.1 rfl 1 (by decide) u_fl_RX1_18 rfl dX1_addPart_25 ?_
  refine lv_aload_n hx hb dX1_addPart_28 rfl (lv_at hl 0 rfl) ?_
  refine x_get (T := TX1) (N := 4) hx hb hts uX1 hown hK hP (i := 4) (by omega) hp0.1 rfl 3 (by decide) u_fl_RX1_25 rfl dX1_addPart_29 ?_
  refine lv_iload_n hx hb dX1_addPart_32 rfl (lv_at hl 1 rfl) ?_
  refine x_ist hx hb hK hP hD hS (i := 7) (by omega) hg1 (by omega) dX1_addPart_33 (fun H locs hP hS => ?_)
  have hP : va_P D vwCl (xw n ad (va_up en 7 (.inl (cA 0, 201, .inl (upd g (Int.toNat (pn : Int)) (xI (a1 : Int))))))) H := hP
  obtain ⟨en1, he1⟩ : ∃ z, z = va_up en 7 (.inl (cA 0, 201, .inl (upd g (Int.toNat (pn : Int)) (xI (a1 : Int))))) := ⟨_, rfl⟩
  rw [← he1] at hP
  have ho1 : en1 7 = (.inl (cA 0, 201, .inl (upd g (Int.toNat (pn : Int)) (xI (a1 : Int))))) := by rw [he1, va_up_self]
  have hk2 := (show en1 4 = en 4 from by rw [he1, va_up_ne _ _ (by omega)]).trans hp0.1
  have hk3 := (show en1 8 = en 8 from by rw [he1, va_up_ne _ _ (by omega)]).trans hw1
  refine lv_aload_n hx hb dX1_addPart_34 rfl (lv_at hl 0 rfl) ?_
  refine x_get (T := TX1) (N := 4) hx hb hts uX1 hown hK hP (i := 4) (by omega) hk2 rfl 2 (by decide) u_fl_RX1_22 rfl dX1_addPart_35 ?_
  refine lv_aload_n hx hb dX1_addPart_38 rfl (lv_at hl 0 rfl) ?_
  refine x_get (T := TX1) (N := 4) hx hb hts uX1 hown hK hP (i := 4) (by omega) hk2 rfl 3 (by decide) u_fl_RX1_25 rfl dX1_addPart_39 ?_
  refine lv_iload_n hx hb dX1_addPart_42 rfl (lv_at hl 2 rfl) ?_
  refine x_ist hx hb hK hP hD hS (i := 8) (by omega) hk3 (by omega) dX1_addPart_43 (fun H locs hP hS => ?_)
  have hP : va_P D vwCl (xw n ad (va_up en1 8 (.inl (cA 0, 201, .inl (upd w (Int.toNat (pn : Int)) (xI (a2 : Int))))))) H := hP
  obtain ⟨en4, he4⟩ : ∃ z, z = va_up en1 8 (.inl (cA 0, 201, .inl (upd w (Int.toNat (pn : Int)) (xI (a2 : Int))))) := ⟨_, rfl⟩
  rw [← he4] at hP
  have ho4 : en4 8 = (.inl (cA 0, 201, .inl (upd w (Int.toNat (pn : Int)) (xI (a2 : Int))))) := by rw [he4, va_up_self]
  have hk5 := (show en4 4 = en1 4 from by rw [he4, va_up_ne _ _ (by omega)]).trans hk2
  have hk6 := (show en4 7 = en1 7 from by rw [he4, va_up_ne _ _ (by omega)]).trans ho1
  refine lv_aload_n hx hb dX1_addPart_44 rfl (lv_at hl 0 rfl) ?_
  refine lv_dup hx hb dX1_addPart_45 rfl ?_
  refine x_get (T := TX1) (N := 4) hx hb hts uX1 hown hK hP (i := 4) (by omega) hk5 rfl 3 (by decide) u_fl_RX1_25 rfl dX1_addPart_46 ?_
  refine x_iconst hx hb dX1_addPart_49 ?_
  refine x_iadd hx hb dX1_addPart_50 ?_
  refine x_put (T := TX1) (N := 4) (ty := .int) hx hb hts uX1 tyX1 tyX1_ok nmX1 hown hK hP hD hS (i := 4) (by omega) hk5 rfl 3 (by decide) u_fl_RX1_25 rfl (by decide +kernel) rfl rfl (by show 3 < 4; decide) dX1_addPart_51 (fun H locs hP hS => ?_)
  have hP : va_P D vwCl (xw n ad (va_up en4 4 (.inr (1, [.ref (ad 5), .ref (ad 7), .ref (ad 8), .int (xI ((pn : Int) + 1))])))) H := hP
  obtain ⟨en7, he7⟩ : ∃ z, z = va_up en4 4 (.inr (1, [.ref (ad 5), .ref (ad 7), .ref (ad 8), .int (xI ((pn : Int) + 1))])) := ⟨_, rfl⟩
  rw [← he7] at hP
  have ho7 : en7 4 = (.inr (1, [.ref (ad 5), .ref (ad 7), .ref (ad 8), .int (xI ((pn : Int) + 1))])) := by rw [he7, va_up_self]
  have hk8 := (show en7 7 = en4 7 from by rw [he7, va_up_ne _ _ (by omega)]).trans hk6
  have hk9 := (show en7 8 = en4 8 from by rw [he7, va_up_ne _ _ (by omega)]).trans ho4
  subst he7
  subst he4
  subst he1
  exact xe_v hx hb hrt hlocks hP hS (⟨⟨va_up_self _ _ _, ⟨upd g (Int.toNat (pn : Int)) (xI (a1 : Int)), by rw [va_up_ne _ _ (by decide), va_up_ne _ _ (by decide), va_up_self], fun k hk => by
      by_cases q : k = pn
      · subst q; rw [sp_up_s]; exact if_pos rfl
      · rw [sp_up_n _ _ q]; simp only [upd]; rw [if_neg (by omega)]; exact hg2 k (by omega)⟩, ⟨upd w (Int.toNat (pn : Int)) (xI (a2 : Int)), by rw [va_up_ne _ _ (by decide), va_up_self], fun k hk => by
      by_cases q : k = pn
      · subst q; rw [sp_up_s]; exact if_pos rfl
      · rw [sp_up_n _ _ q]; simp only [upd]; rw [if_neg (by omega)]; exact hw2 k (by omega)⟩, by omega⟩, fun q q1 q2 q3 => by rw [va_up_ne _ _ q1, va_up_ne _ _ q3, va_up_ne _ _ q2]⟩) dX1_addPart_54

def sp_drop (ps pe : Nat → Nat) : Nat → Nat
  | 0 => 0
  | k + 1 => if ps k = pe k then sp_drop ps pe k else k + 1
theorem sp_drop_le (ps pe : Nat → Nat) : ∀ k : Nat, sp_drop ps pe k ≤ k
  | 0 => Nat.le_refl 0
  | k + 1 => by
    rw [sp_drop]
    split
    · exact Nat.le_succ_of_le (sp_drop_le ps pe k)
    · exact Nat.le_refl _
theorem sp_drop_t {ps pe : Nat → Nat} {k : Nat} (h0 : 0 < k) (h : ps (k - 1) = pe (k - 1)) : sp_drop ps pe k = sp_drop ps pe (k - 1) := by
  obtain ⟨j, rfl⟩ : ∃ j, k = j + 1 := ⟨k - 1, by omega⟩
  simp only [Nat.add_sub_cancel] at h ⊢
  rw [sp_drop, if_pos h]
theorem sp_drop_f {ps pe : Nat → Nat} {k : Nat} (h0 : 0 < k) (h : ¬ ps (k - 1) = pe (k - 1)) : sp_drop ps pe k = k := by
  obtain ⟨j, rfl⟩ : ∃ j, k = j + 1 := ⟨k - 1, by omega⟩
  simp only [Nat.add_sub_cancel] at h ⊢
  rw [sp_drop, if_neg h]
theorem XP0.sz {cA : Nat → ClassId} {ad : Nat → Nat} {en : Nat → va_E} {pn pn' : Nat} {ps pe : Nat → Nat} {z : Int} (h : XP0 cA ad en pn ps pe) (hz : z = (pn' : Int)) (hle : pn' ≤ pn) : XP0 cA ad (va_up en 4 (.inr (1, [.ref (ad 5), .ref (ad 7), .ref (ad 8), .int (xI z)]))) pn' ps pe := by
  subst hz
  obtain ⟨h1, ⟨g, h2, h3⟩, ⟨g2, h4, h5⟩, h6⟩ := h
  exact ⟨va_up_self _ _ _, ⟨g, by rw [va_up_ne _ _ (by decide)]; exact h2, fun k hk => h3 k (by omega)⟩, ⟨g2, by rw [va_up_ne _ _ (by decide)]; exact h4, fun k hk => h5 k (by omega)⟩, by omega⟩

set_option maxRecDepth 20000 in
theorem c_X1_dropEmptyEnd (l : Launch) (D : va_G) (cA : Nat → ClassId) (n : Nat) (ad : Nat → Nat) (en : Nat → va_E) (sz : Nat) {pn : Nat} {ps pe : Nat → Nat} (hn : 9 ≤ n) (hp0 : XP0 cA ad en pn ps pe) (hbs : ∀ k : Nat, k < pn → ps k ≤ 200) (hbe : ∀ k : Nat, k < pn → pe k ≤ 200) : Met l yX1_dropEmptyEnd (Cond.code yX1_dropEmptyEnd cX1_dropEmptyEnd 2 none :: xU) (xrm 2 42) (va_Pc [.ref (ad 4)] (xM D cA n ad en sz)) (va_Qv (fun u => XP0 cA ad u (sp_drop ps pe pn) ps pe ∧ xO 4 5 en u) (xE D n ad) (xA n ad sz)) 0 0 (xA n ad sz) := by
  refine xmet (by decide) (Nat.le_of_ble_eq_true rfl) (fun p e s mm args below meth c ls hx hb hrt hml hown hts hlocks hname hB hl => ?_)
  obtain ⟨⟨hP, hK, hN⟩, hsz, hDt⟩ := hB
  have hD : xD (xA n ad sz) n ad := xD_self hDt sz
  have hA : ∀ q : Nat, s.heap.size ≤ q → xA n ad sz q := fun q h => Or.inr (by rw [← hsz]; exact h)
  have hS : va_S (xA n ad sz) s.heap s.heap [] := va_S.rf
  have hown : s.vm.findClass RX1 = some mm.cls := hown
  have hl : lv_has ls 2 [(0, .ref (ad 4))] := hl
  have hpn := hp0.2.2.2
  refine lv_aload_n hx hb dX1_dropEmptyEnd_0 rfl (lv_at hl 0 rfl) ?_
  refine x_get (T := TX1) (N := 4) hx hb hts uX1 hown hK hP (i := 4) (by omega) hp0.1 rfl 3 (by decide) u_fl_RX1_25 rfl dX1_dropEmptyEnd_1 ?_
  refine x_iconst hx hb dX1_dropEmptyEnd_4 ?_
  refine x_isub hx hb dX1_dropEmptyEnd_5 ?_
  refine lv_istore_n (lv' := [(1, .int (xI ((pn : Int) - 1))), (0, .ref (ad 4))]) hx hb dX1_dropEmptyEnd_6 rfl hl (by decide) rfl (fun ls hl => ?_)
  have L7 : ∀ (nn : Nat) (k : Int) (ew7 : Nat → va_E) (H : Heap) (locs : List Loc), (-1 ≤ k ∧ k < (pn : Int)) → (sp_drop ps pe (k + 1).toNat = sp_drop ps pe pn) → ((k + 1).toNat) < nn → (XP0 cA ad ew7 (k + 1).toNat ps pe) → (xO 4 5 en ew7) → va_P D vwCl (xw n ad ew7) H → va_S (xA n ad sz) s.heap H locs → ∀ ls : Array Slot, lv_has ls 2 [(0, .ref (ad 4)), (1, .int (xI k))] → W p l e (xrm 2 42) s mm args below meth c H locs 0 0 (MQ below (va_Qv (fun u => XP0 cA ad u (sp_drop ps pe pn) ps pe ∧ xO 4 5 en u) (xE D n ad) (xA n ad sz)) args s 0 0 (xA n ad sz)) (F0 mm 7 ls []) := by
    intro nn
    induction nn with
    | zero =>
      intro k ew7 H locs hk hF hmm hp0 ho hP hS ls hl
      exact absurd hmm (Nat.not_lt_zero _)
    | succ nn ih =>
      intro k ew7 H locs hk hF hmm hp0 ho hP hS ls hl
      have hk1 : (((k + 1).toNat : Nat) : Int) = k + 1 := by omega
      refine lv_iload_n hx hb dX1_dropEmptyEnd_7 rfl (lv_at hl 1 rfl) ?_
      refine x_if_lt (tgt := 35) hx hb dX1_dropEmptyEnd_8 (by decide) (by omega) (fun c_8 => ?_) (fun c_8 => ?_)
      · have e1 : sp_drop ps pe pn = (k + 1).toNat := by rw [← hF, show (k + 1).toNat = 0 by omega, sp_drop]
        exact xe_v hx hb hrt hlocks hP hS (⟨by rw [e1]; exact hp0, ho⟩) dX1_dropEmptyEnd_35
      · refine lv_aload_n hx hb dX1_dropEmptyEnd_11 rfl (lv_at hl 0 rfl) ?_
        refine lv_iload_n hx hb dX1_dropEmptyEnd_12 rfl (lv_at hl 1 rfl) ?_
        refine xv_i (i := 4) (As := [.int (xI k)]) (rest := []) ⟨hx, hb, hml, hown, hts⟩ hl.1 (c_X1_start l D cA n ad ew7 (by omega) hp0 (fun q hq => hbs q (by omega)) k (by omega)) k_X1_start u_ml_RX1_54 hK hN hP (by omega) hp0.1 rfl rfl rfl rfl (Nat.le_of_ble_eq_true rfl) ⟨Nat.le_of_ble_eq_true rfl, Nat.le_of_ble_eq_true rfl⟩ ⟨Nat.le_of_ble_eq_true rfl, Nat.le_of_ble_eq_true rfl⟩ dX1_dropEmptyEnd_13 ?_
        refine lv_aload_n hx hb dX1_dropEmptyEnd_16 rfl (lv_at hl 0 rfl) ?_
        refine lv_iload_n hx hb dX1_dropEmptyEnd_17 rfl (lv_at hl 1 rfl) ?_
        refine xv_i (i := 4) (As := [.int (xI k)]) (rest := [.int (xI ((ps (Int.toNat k) : Nat) : Int))]) ⟨hx, hb, hml, hown, hts⟩ hl.1 (c_X1_end l D cA n ad ew7 (by omega) hp0 (fun q hq => hbe q (by omega)) k (by omega)) k_X1_end u_ml_RX1_57 hK hN hP (by omega) hp0.1 rfl rfl rfl rfl (Nat.le_of_ble_eq_true rfl) ⟨Nat.le_of_ble_eq_true rfl, Nat.le_of_ble_eq_true rfl⟩ ⟨Nat.le_of_ble_eq_true rfl, Nat.le_of_ble_eq_true rfl⟩ dX1_dropEmptyEnd_18 ?_
        refine x_icmp_ne (tgt := 35) hx hb dX1_dropEmptyEnd_21 (by decide) (by have := hbs k.toNat (by omega); have := hbe k.toNat (by omega); omega) (fun c_21 => ?_) (fun c_21 => ?_)
        · have e1 : sp_drop ps pe pn = (k + 1).toNat := by rw [← hF]; exact sp_drop_f (by omega) (by rw [show Int.toNat (k + 1) - 1 = k.toNat by omega]; omega)
          exact xe_v hx hb hrt hlocks hP hS (⟨by rw [e1]; exact hp0, ho⟩) dX1_dropEmptyEnd_35
        · refine lv_aload_n hx hb dX1_dropEmptyEnd_24 rfl (lv_at hl 0 rfl) ?_
          refine lv_iload_n hx hb dX1_dropEmptyEnd_25 rfl (lv_at hl 1 rfl) ?_
          refine x_put (T := TX1) (N := 4) (ty := .int) hx hb hts uX1 tyX1 tyX1_ok nmX1 hown hK hP hD hS (i := 4) (by omega) hp0.1 rfl 3 (by decide) u_fl_RX1_25 rfl (by decide +kernel) rfl rfl (by show 3 < 4; decide) dX1_dropEmptyEnd_26 (fun H locs hP hS => ?_)
          have hP : va_P D vwCl (xw n ad (va_up ew7 4 (.inr (1, [.ref (ad 5), .ref (ad 7), .ref (ad 8), .int (xI k)])))) H := hP
          obtain ⟨en1, he1⟩ : ∃ z, z = va_up ew7 4 (.inr (1, [.ref (ad 5), .ref (ad 7), .ref (ad 8), .int (xI k)])) := ⟨_, rfl⟩
          rw [← he1] at hP
          have ho1 : en1 4 = (.inr (1, [.ref (ad 5), .ref (ad 7), .ref (ad 8), .int (xI k)])) := by rw [he1, va_up_self]
          refine x_iinc (lv' := [(1, .int (xI (k + (-1)))), (0, .ref (ad 4))]) (k := 1) hx hb dX1_dropEmptyEnd_29 hl rfl (by decide) rfl (fun ls hl => ?_)
          refine lv_goto (tgt := 7) hx hb dX1_dropEmptyEnd_32 (by decide) ?_
          have hp1 : XP0 cA ad en1 (Int.toNat (k + (-1) + 1)) ps pe := by rw [he1]; exact hp0.sz (by omega) (by omega)
          have ho1 : xO 4 5 en en1 := by rw [he1]; exact ho.up (by omega) (by omega)
          exact ih (k + (-1)) en1 _ _ (by omega) (by rw [← hF, show Int.toNat (k + (-1) + 1) = Int.toNat (k + 1) - 1 by omega]; exact (sp_drop_t (by omega) (by rw [show Int.toNat (k + 1) - 1 = k.toNat by omega]; omega)).symm) (by omega) hp1 ho1 hP hS ls (lv_sub hl [1, 0] rfl)
  exact L7 _ ((pn : Int) - 1) en _ _ (by omega) (by rw [show Int.toNat ((pn : Int) - 1 + 1) = pn by omega]) (Nat.lt_succ_self _) (by rw [show Int.toNat ((pn : Int) - 1 + 1) = pn by omega]; exact hp0) xO.rf hP hS ls (lv_sub hl [1, 0] rfl)
