theorem sp_ed_cpy {g w : Nat → Int32} {f h : Nat → Int} {m k a b st len : Nat} (hg : ∀ t : Nat, t < m → g t = xI (f t)) (hw : ∀ t : Nat, t < k → w t = xI (h t)) (hab : a ≤ b) (hb : b ≤ m) (hl : st + len ≤ k) (t : Nat) (ht : t < m - (b - a) + len) : va_cpy w (va_cpy g g b (a + len) (m - b)) st a len t = xI (sp_ed f a b h st len t) := by
  simp only [va_cpy, sp_ed]
  by_cases h1 : t < a
  · rw [if_neg (by omega), if_neg (by omega), if_pos h1]
    exact hg t (by omega)
  · by_cases h2 : t < a + len
    · rw [if_pos (by omega), if_neg h1, if_pos h2]
      exact hw _ (by omega)
    · rw [if_neg (by omega), if_pos (by omega), if_neg h1, if_neg h2, Nat.add_comm b]
      exact hg _ (by omega)
theorem sp_ed_b {f h : Nat → Int} {m k a b st len : Nat} (hf : ∀ t : Nat, t < m → 0 ≤ f t ∧ f t ≤ 255) (hh : ∀ t : Nat, t < k → 0 ≤ h t ∧ h t ≤ 255) (hab : a ≤ b) (hb : b ≤ m) (hl : st + len ≤ k) (t : Nat) (ht : t < m - (b - a) + len) : 0 ≤ sp_ed f a b h st len t ∧ sp_ed f a b h st len t ≤ 255 := by
  simp only [sp_ed]
  by_cases h1 : t < a
  · rw [if_pos h1]
    exact hf t (by omega)
  · by_cases h2 : t < a + len
    · rw [if_neg h1, if_pos h2]
      exact hh _ (by omega)
    · rw [if_neg h1, if_neg h2]
      exact hf _ (by omega)
theorem sp_rg_st {f h : Nat → Int} {m k : Nat} {a : Int} : sp_rg f m a h k 0 (k : Int) ↔ sp_st f m h k a := by
  constructor
  · intro q
    refine ⟨q.1.1, q.1.2.2.1, fun t ht => ?_⟩
    have := q.2 t (by omega)
    rw [show Int.toNat 0 + t = t from Nat.zero_add t] at this
    exact this
  · intro q
    refine ⟨⟨q.1, by omega, q.2.1, by omega⟩, fun t ht => ?_⟩
    rw [show Int.toNat 0 + t = t from Nat.zero_add t]
    exact q.2.2 t (by omega)

set_option maxRecDepth 20000 in
theorem c_X2_change (l : Launch) (D : va_G) (cA : Nat → ClassId) (n : Nat) (ad : Nat → Nat) (en : Nat → va_E) (sz : Nat) {i m : Nat} {f : Nat → Int} (hi : i + 1 < n) (hr : XR cA ad en i m f) {j k : Nat} {h : Nat → Int} (hj : j + 1 < n) (hq : XR cA ad en j k h) (hij : j + 1 < i ∨ i + 1 < j) (z1 z2 z3 z4 : Int) (hz1 : -2147483648 ≤ z1 ∧ z1 ≤ 2147483647) (hz2 : -2147483648 ≤ z2 ∧ z2 ≤ 2147483647) (hz3 : -2147483648 ≤ z3 ∧ z3 ≤ 2147483647) (hz4 : -2147483648 ≤ z4 ∧ z4 ≤ 2147483647) : Met l yX2_change (Cond.code yX2_change cX2_change 8 (some .int) :: xU) (xrm 1 26) (va_Pc [.ref (ad i), .int (xI z1), .int (xI z2), .ref (ad j), .int (xI z3), .int (xI z4)] (xM D cA n ad en sz)) (va_Qi (fun r u => (¬ ((0 ≤ z1 ∧ z1 ≤ z2 ∧ z2 ≤ (m : Int)) ∧ 0 ≤ z3 ∧ z3 ≤ z4 ∧ z4 ≤ (k : Int)) ∧ r = xI (-1005) ∧ u = en) ∨ (((0 ≤ z1 ∧ z1 ≤ z2 ∧ z2 ≤ (m : Int)) ∧ 0 ≤ z3 ∧ z3 ≤ z4 ∧ z4 ≤ (k : Int)) ∧ 200 < (m : Int) - (z2 - z1) + (z4 - z3) ∧ r = xI (-1007) ∧ u = en) ∨ (((0 ≤ z1 ∧ z1 ≤ z2 ∧ z2 ≤ (m : Int)) ∧ 0 ≤ z3 ∧ z3 ≤ z4 ∧ z4 ≤ (k : Int)) ∧ (m : Int) - (z2 - z1) + (z4 - z3) ≤ 200 ∧ r = xI ((m : Int) - (z2 - z1) + (z4 - z3)) ∧ XR cA ad u i (Int.toNat ((m : Int) - (z2 - z1) + (z4 - z3))) (sp_ed f (Int.toNat z1) (Int.toNat z2) h (Int.toNat z3) (Int.toNat (z4 - z3))) ∧ xO i (i + 2) en u)) (xE D n ad) (xA n ad sz)) 0 0 (xA n ad sz) := by
  refine xmet (by decide) (Nat.le_of_ble_eq_true rfl) (fun p e s mm args below meth c ls hx hb hrt hml hown hts hlocks hname hB hl => ?_)
  obtain ⟨⟨hP, hK, hN⟩, hsz, hDt⟩ := hB
  have hD : xD (xA n ad sz) n ad := xD_self hDt sz
  have hA : ∀ q : Nat, s.heap.size ≤ q → xA n ad sz q := fun q h => Or.inr (by rw [← hsz]; exact h)
  have hS : va_S (xA n ad sz) s.heap s.heap [] := va_S.rf
  have hown : s.vm.findClass RX2 = some mm.cls := hown
  have hl : lv_has ls 8 [(0, .ref (ad i)), (1, .int (xI z1)), (2, .int (xI z2)), (3, .ref (ad j)), (4, .int (xI z3)), (5, .int (xI z4))] := hl
  have hm := hr.2.2.1
  have hm2 := hq.2.2.1
  obtain ⟨g, hg1, hg2⟩ := hr.2.1
  obtain ⟨w, hw1, hw2⟩ := hq.2.1
  refine lv_aload_n hx hb dX2_change_0 rfl (lv_at hl 0 rfl) ?_
  refine lv_iload_n hx hb dX2_change_1 rfl (lv_at hl 1 rfl) ?_
  refine lv_iload_n hx hb dX2_change_2 rfl (lv_at hl 2 rfl) ?_
  refine xv_i (i := i) (As := [.int (xI z1), .int (xI z2)]) (rest := []) ⟨hx, hb, hml, hown, hts⟩ hl.1 (c_X2_spans l D cA n ad en (by omega) hr z1 z2 (by omega) (by omega)) k_X2_spans u_ml_RX2_35 hK hN hP (by omega) hr.1 rfl rfl rfl rfl (Nat.le_of_ble_eq_true rfl) ⟨Nat.le_of_ble_eq_true rfl, Nat.le_of_ble_eq_true rfl⟩ ⟨Nat.le_of_ble_eq_true rfl, Nat.le_of_ble_eq_true rfl⟩ dX2_change_3 ?_
  refine x_ifb_eq (tgt := 20) hx hb dX2_change_6 (by decide)  (fun c_6 => ?_) (fun c_6 => ?_)
  · refine x_sipush hx hb dX2_change_20 (by decide +kernel) ?_
    exact xe_i hx hb hrt hlocks hP hS (Or.inl ⟨fun q => c_6 q.1, rfl, rfl⟩) dX2_change_23
  · refine lv_aload_n hx hb dX2_change_9 rfl (lv_at hl 3 rfl) ?_
    refine lv_iload hx hb dX2_change_10 (lv_at hl 4 rfl) ?_
    refine lv_iload hx hb dX2_change_12 (lv_at hl 5 rfl) ?_
    refine xv_i (i := j) (As := [.int (xI z3), .int (xI z4)]) (rest := []) ⟨hx, hb, hml, hown, hts⟩ hl.1 (c_X2_spans l D cA n ad en (by omega) hq z3 z4 (by omega) (by omega)) k_X2_spans u_ml_RX2_35 hK hN hP (by omega) hq.1 rfl rfl rfl rfl (Nat.le_of_ble_eq_true rfl) ⟨Nat.le_of_ble_eq_true rfl, Nat.le_of_ble_eq_true rfl⟩ ⟨Nat.le_of_ble_eq_true rfl, Nat.le_of_ble_eq_true rfl⟩ dX2_change_14 ?_
    refine x_ifb_ne (tgt := 24) hx hb dX2_change_17 (by decide)  (fun c_17 => ?_) (fun c_17 => ?_)
    · refine lv_iload hx hb dX2_change_24 (lv_at hl 5 rfl) ?_
      refine lv_iload hx hb dX2_change_26 (lv_at hl 4 rfl) ?_
      refine x_isub hx hb dX2_change_28 ?_
      refine lv_istore (lv' := [(6, .int (xI (z4 - z3))), (0, .ref (ad i)), (1, .int (xI z1)), (2, .int (xI z2)), (3, .ref (ad j)), (4, .int (xI z3)), (5, .int (xI z4))]) hx hb dX2_change_29 hl (by decide) rfl (fun ls hl => ?_)
      refine lv_aload_n hx hb dX2_change_31 rfl (lv_at hl 1 rfl) ?_
      refine x_get (T := TX2) (N := 2) hx hb hts uX2 hown hK hP (i := i) (by omega) hr.1 rfl 1 (by decide) u_fl_RX2_15 rfl dX2_change_32 ?_
      refine lv_iload_n hx hb dX2_change_35 rfl (lv_at hl 3 rfl) ?_
      refine lv_iload_n hx hb dX2_change_36 rfl (lv_at hl 2 rfl) ?_
      refine x_isub hx hb dX2_change_37 ?_
      refine x_isub hx hb dX2_change_38 ?_
      refine lv_iload hx hb dX2_change_39 (lv_at hl 0 rfl) ?_
      refine x_iadd hx hb dX2_change_41 ?_
      refine lv_istore (lv' := [(7, .int (xI (((m : Int) - (z2 - z1)) + (z4 - z3)))), (6, .int (xI (z4 - z3))), (0, .ref (ad i)), (1, .int (xI z1)), (2, .int (xI z2)), (3, .ref (ad j)), (4, .int (xI z3)), (5, .int (xI z4))]) hx hb dX2_change_42 hl (by decide) rfl (fun ls hl => ?_)
      refine lv_iload hx hb dX2_change_44 (lv_at hl 0 rfl) ?_
      refine lv_aload_n hx hb dX2_change_46 rfl (lv_at hl 2 rfl) ?_
      refine x_get (T := TX2) (N := 2) hx hb hts uX2 hown hK hP (i := i) (by omega) hr.1 rfl 0 (by decide) u_fl_RX2_9 rfl dX2_change_47 ?_
      refine x_alen hx hb hK hP (i := i + 1) (by omega) 0 hg1 rfl dX2_change_50 ?_
      refine x_icmp_le (tgt := 58) hx hb dX2_change_51 (by decide) (by omega) (fun c_51 => ?_) (fun c_51 => ?_)
      · refine lv_aload_n hx hb dX2_change_58 rfl (lv_at hl 2 rfl) ?_
        refine x_get (T := TX2) (N := 2) hx hb hts uX2 hown hK hP (i := i) (by omega) hr.1 rfl 0 (by decide) u_fl_RX2_9 rfl dX2_change_59 ?_
        refine lv_iload_n hx hb dX2_change_62 rfl (lv_at hl 4 rfl) ?_
        refine lv_aload_n hx hb dX2_change_63 rfl (lv_at hl 2 rfl) ?_
        refine x_get (T := TX2) (N := 2) hx hb hts uX2 hown hK hP (i := i) (by omega) hr.1 rfl 0 (by decide) u_fl_RX2_9 rfl dX2_change_64 ?_
        refine lv_iload_n hx hb dX2_change_67 rfl (lv_at hl 3 rfl) ?_
        refine lv_iload hx hb dX2_change_68 (lv_at hl 1 rfl) ?_
        refine x_iadd hx hb dX2_change_70 ?_
        refine lv_aload_n hx hb dX2_change_71 rfl (lv_at hl 2 rfl) ?_
        refine x_get (T := TX2) (N := 2) hx hb hts uX2 hown hK hP (i := i) (by omega) hr.1 rfl 1 (by decide) u_fl_RX2_15 rfl dX2_change_72 ?_
        refine lv_iload_n hx hb dX2_change_75 rfl (lv_at hl 4 rfl) ?_
        refine x_isub hx hb dX2_change_76 ?_
        refine x_copy hx hb (hml.trans hl.1.symm) hts hown u_ml_RX2_39 hK hP hD hS (i := i + 1) (j := i + 1) (by omega) (by omega) hg1 hg1 (by omega) (Nat.le_of_ble_eq_true rfl) (by first | exact Nat.le_of_ble_eq_true rfl | decide) dX2_change_77 (fun H locs hP hS => ?_)
        have hP : va_P D vwCl (xw n ad (va_up en (i + 1) (.inl (cA 0, 200, .inl (va_cpy g g (Int.toNat z2) (Int.toNat (z1 + (z4 - z3))) (Int.toNat ((m : Int) - z2))))))) H := hP
        obtain ⟨en1, he1⟩ : ∃ z, z = va_up en (i + 1) (.inl (cA 0, 200, .inl (va_cpy g g (Int.toNat z2) (Int.toNat (z1 + (z4 - z3))) (Int.toNat ((m : Int) - z2))))) := ⟨_, rfl⟩
        rw [← he1] at hP
        have ho1 : en1 (i + 1) = (.inl (cA 0, 200, .inl (va_cpy g g (Int.toNat z2) (Int.toNat (z1 + (z4 - z3))) (Int.toNat ((m : Int) - z2))))) := by rw [he1, va_up_self]
        have hk2 := (show en1 i = en i from by rw [he1, va_up_ne _ _ (by omega)]).trans hr.1
        have hk3 := (show en1 j = en j from by rw [he1, va_up_ne _ _ (by omega)]).trans hq.1
        have hk4 := (show en1 (j + 1) = en (j + 1) from by rw [he1, va_up_ne _ _ (by omega)]).trans hw1
        refine lv_aload_n hx hb dX2_change_80 rfl (lv_at hl 5 rfl) ?_
        refine x_get (T := TX2) (N := 2) hx hb hts uX2 hown hK hP (i := j) (by omega) hk3 rfl 0 (by decide) u_fl_RX2_9 rfl dX2_change_81 ?_
        refine lv_iload hx hb dX2_change_84 (lv_at hl 6 rfl) ?_
        refine lv_aload_n hx hb dX2_change_86 rfl (lv_at hl 2 rfl) ?_
        refine x_get (T := TX2) (N := 2) hx hb hts uX2 hown hK hP (i := i) (by omega) hk2 rfl 0 (by decide) u_fl_RX2_9 rfl dX2_change_87 ?_
        refine lv_iload_n hx hb dX2_change_90 rfl (lv_at hl 3 rfl) ?_
        refine lv_iload hx hb dX2_change_91 (lv_at hl 1 rfl) ?_
        refine x_copy hx hb (hml.trans hl.1.symm) hts hown u_ml_RX2_39 hK hP hD hS (i := j + 1) (j := i + 1) (by omega) (by omega) hk4 ho1 (by omega) (Nat.le_of_ble_eq_true rfl) (by first | exact Nat.le_of_ble_eq_true rfl | decide) dX2_change_93 (fun H locs hP hS => ?_)
        have hP : va_P D vwCl (xw n ad (va_up en1 (i + 1) (.inl (cA 0, 200, .inl (va_cpy w (va_cpy g g (Int.toNat z2) (Int.toNat (z1 + (z4 - z3))) (Int.toNat ((m : Int) - z2))) (Int.toNat z3) (Int.toNat z1) (Int.toNat (z4 - z3))))))) H := hP
        obtain ⟨en5, he5⟩ : ∃ z, z = va_up en1 (i + 1) (.inl (cA 0, 200, .inl (va_cpy w (va_cpy g g (Int.toNat z2) (Int.toNat (z1 + (z4 - z3))) (Int.toNat ((m : Int) - z2))) (Int.toNat z3) (Int.toNat z1) (Int.toNat (z4 - z3))))) := ⟨_, rfl⟩
        rw [← he5] at hP
        have ho5 : en5 (i + 1) = (.inl (cA 0, 200, .inl (va_cpy w (va_cpy g g (Int.toNat z2) (Int.toNat (z1 + (z4 - z3))) (Int.toNat ((m : Int) - z2))) (Int.toNat z3) (Int.toNat z1) (Int.toNat (z4 - z3))))) := by rw [he5, va_up_self]
        have hk6 := (show en5 i = en1 i from by rw [he5, va_up_ne _ _ (by omega)]).trans hk2
        have hk7 := (show en5 j = en1 j from by rw [he5, va_up_ne _ _ (by omega)]).trans hk3
        have hk8 := (show en5 (j + 1) = en1 (j + 1) from by rw [he5, va_up_ne _ _ (by omega)]).trans hk4
        refine lv_aload_n hx hb dX2_change_96 rfl (lv_at hl 2 rfl) ?_
        refine lv_iload hx hb dX2_change_97 (lv_at hl 0 rfl) ?_
        refine x_put (T := TX2) (N := 2) (ty := .int) hx hb hts uX2 tyX2 tyX2_ok nmX2 hown hK hP hD hS (i := i) (by omega) hk6 rfl 1 (by decide) u_fl_RX2_15 rfl (by decide +kernel) rfl rfl (by show 1 < 2; decide) dX2_change_99 (fun H locs hP hS => ?_)
        have hP : va_P D vwCl (xw n ad (va_up en5 i (.inr (2, [.ref (ad (i + 1)), .int (xI (((m : Int) - (z2 - z1)) + (z4 - z3)))])))) H := hP
        obtain ⟨en9, he9⟩ : ∃ z, z = va_up en5 i (.inr (2, [.ref (ad (i + 1)), .int (xI (((m : Int) - (z2 - z1)) + (z4 - z3)))])) := ⟨_, rfl⟩
        rw [← he9] at hP
        have ho9 : en9 i = (.inr (2, [.ref (ad (i + 1)), .int (xI (((m : Int) - (z2 - z1)) + (z4 - z3)))])) := by rw [he9, va_up_self]
        have hk10 := (show en9 j = en5 j from by rw [he9, va_up_ne _ _ (by omega)]).trans hk7
        have hk11 := (show en9 (i + 1) = en5 (i + 1) from by rw [he9, va_up_ne _ _ (by omega)]).trans ho5
        have hk12 := (show en9 (j + 1) = en5 (j + 1) from by rw [he9, va_up_ne _ _ (by omega)]).trans hk8
        refine lv_aload_n hx hb dX2_change_102 rfl (lv_at hl 2 rfl) ?_
        refine x_get (T := TX2) (N := 2) hx hb hts uX2 hown hK hP (i := i) (by omega) ho9 rfl 1 (by decide) u_fl_RX2_15 rfl dX2_change_103 ?_
        subst he9
        subst he5
        subst he1
        have e0 : Int.toNat ((m : Int) - (z2 - z1) + (z4 - z3)) = m - (z2.toNat - z1.toNat) + (z4 - z3).toNat := by omega
        have e1 : Int.toNat (z1 + (z4 - z3)) = z1.toNat + (z4 - z3).toNat := by omega
        have e2 : Int.toNat ((m : Int) - z2) = m - z2.toNat := by omega
        exact xe_i hx hb hrt hlocks hP hS (Or.inr (Or.inr ⟨⟨c_6, c_17⟩, by omega, rfl, XR.mk _ (va_up_self _ _ _) (by omega) (by rw [va_up_ne _ _ (by omega)]; exact va_up_self _ _ _) (fun t ht => by
      rw [e1, e2]
      exact sp_ed_cpy hg2 hw2 (by omega) (by omega) (by omega) t (by omega)) (by omega) (fun t ht => sp_ed_b hr.2.2.2 hq.2.2.2 (by omega) (by omega) (by omega) t (by omega)), ((xO.rf.up (by omega) (by omega)).up (by omega) (by omega)).up (by omega) (by omega)⟩)) dX2_change_106
      · refine x_sipush hx hb dX2_change_54 (by decide +kernel) ?_
        exact xe_i hx hb hrt hlocks hP hS (Or.inr (Or.inl ⟨⟨c_6, c_17⟩, by omega, rfl, rfl⟩)) dX2_change_57
    · refine x_sipush hx hb dX2_change_20 (by decide +kernel) ?_
      exact xe_i hx hb hrt hlocks hP hS (Or.inl ⟨fun q => c_17 q.2, rfl, rfl⟩) dX2_change_23

set_option maxRecDepth 20000 in
theorem c_X2_joinIn (l : Launch) (D : va_G) (cA : Nat → ClassId) (n : Nat) (ad : Nat → Nat) (en : Nat → va_E) (sz : Nat) {i m : Nat} {f : Nat → Int} (hi : i + 1 < n) (hr : XR cA ad en i m f) {j k : Nat} {h : Nat → Int} (hj : j + 1 < n) (hq : XR cA ad en j k h) (hij : j + 1 < i ∨ i + 1 < j) (z1 : Int) (hz1 : -2147483648 ≤ z1 ∧ z1 ≤ 2147483647) : Met l yX2_joinIn (Cond.code yX2_joinIn cX2_joinIn 3 (some .int) :: xU) (xrm 2 53) (va_Pc [.ref (ad i), .int (xI z1), .ref (ad j)] (xM D cA n ad en sz)) (va_Qi (fun r u => (¬ ((0 ≤ z1 ∧ z1 ≤ z1 ∧ z1 ≤ (m : Int)) ∧ 0 ≤ (0 : Int) ∧ (0 : Int) ≤ (k : Int) ∧ (k : Int) ≤ (k : Int)) ∧ r = xI (-1005) ∧ u = en) ∨ (((0 ≤ z1 ∧ z1 ≤ z1 ∧ z1 ≤ (m : Int)) ∧ 0 ≤ (0 : Int) ∧ (0 : Int) ≤ (k : Int) ∧ (k : Int) ≤ (k : Int)) ∧ 200 < (m : Int) - (z1 - z1) + ((k : Int) - (0 : Int)) ∧ r = xI (-1007) ∧ u = en) ∨ (((0 ≤ z1 ∧ z1 ≤ z1 ∧ z1 ≤ (m : Int)) ∧ 0 ≤ (0 : Int) ∧ (0 : Int) ≤ (k : Int) ∧ (k : Int) ≤ (k : Int)) ∧ (m : Int) - (z1 - z1) + ((k : Int) - (0 : Int)) ≤ 200 ∧ r = xI ((m : Int) - (z1 - z1) + ((k : Int) - (0 : Int))) ∧ XR cA ad u i (Int.toNat ((m : Int) - (z1 - z1) + ((k : Int) - (0 : Int)))) (sp_ed f (Int.toNat z1) (Int.toNat z1) h (Int.toNat (0 : Int)) (Int.toNat ((k : Int) - (0 : Int)))) ∧ xO i (i + 2) en u)) (xE D n ad) (xA n ad sz)) 0 0 (xA n ad sz) := by
  refine xmet (by decide) (Nat.le_of_ble_eq_true rfl) (fun p e s mm args below meth c ls hx hb hrt hml hown hts hlocks hname hB hl => ?_)
  obtain ⟨⟨hP, hK, hN⟩, hsz, hDt⟩ := hB
  have hD : xD (xA n ad sz) n ad := xD_self hDt sz
  have hA : ∀ q : Nat, s.heap.size ≤ q → xA n ad sz q := fun q h => Or.inr (by rw [← hsz]; exact h)
  have hS : va_S (xA n ad sz) s.heap s.heap [] := va_S.rf
  have hown : s.vm.findClass RX2 = some mm.cls := hown
  have hl : lv_has ls 3 [(0, .ref (ad i)), (1, .int (xI z1)), (2, .ref (ad j))] := hl
  have hm := hr.2.2.1
  have hm2 := hq.2.2.1
  refine lv_aload_n hx hb dX2_joinIn_0 rfl (lv_at hl 0 rfl) ?_
  refine lv_iload_n hx hb dX2_joinIn_1 rfl (lv_at hl 1 rfl) ?_
  refine lv_iload_n hx hb dX2_joinIn_2 rfl (lv_at hl 1 rfl) ?_
  refine lv_aload_n hx hb dX2_joinIn_3 rfl (lv_at hl 2 rfl) ?_
  refine x_iconst hx hb dX2_joinIn_4 ?_
  refine lv_aload_n hx hb dX2_joinIn_5 rfl (lv_at hl 2 rfl) ?_
  refine x_get (T := TX2) (N := 2) hx hb hts uX2 hown hK hP (i := j) (by omega) hq.1 rfl 1 (by decide) u_fl_RX2_15 rfl dX2_joinIn_6 ?_
  refine xm_i (i := i) (As := [.int (xI z1), .int (xI z1), .ref (ad j), .int (xI 0), .int (xI (k : Int))]) (rest := []) ⟨hx, hb, hml, hown, hts⟩ hl.1 (c_X2_change l D cA n ad en _ hi hr hj hq hij z1 z1 0 (k : Int) (by omega) (by omega) (by omega) (by omega)) k_X2_change u_ml_RX2_45 hK hN hP (by omega) hr.1 rfl rfl rfl rfl (Nat.le_of_ble_eq_true rfl) ⟨Nat.le_of_ble_eq_true rfl, Nat.le_of_ble_eq_true rfl⟩ ⟨Nat.le_of_ble_eq_true rfl, Nat.le_of_ble_eq_true rfl⟩ dX2_joinIn_9 hD hS hA (fun r1 en1 H locs hp1 hP hS => ?_)
  exact xe_i hx hb hrt hlocks hP hS (hp1) dX2_joinIn_12

set_option maxRecDepth 20000 in
theorem c_X2_exchange (l : Launch) (D : va_G) (cA : Nat → ClassId) (n : Nat) (ad : Nat → Nat) (en : Nat → va_E) (sz : Nat) {i m : Nat} {f : Nat → Int} (hi : i + 1 < n) (hr : XR cA ad en i m f) {j k : Nat} {h : Nat → Int} (hj : j + 1 < n) (hq : XR cA ad en j k h) (hij : j + 1 < i ∨ i + 1 < j) (z1 z2 : Int) (hz1 : -2147483648 ≤ z1 ∧ z1 ≤ 2147483647) (hz2 : -2147483648 ≤ z2 ∧ z2 ≤ 2147483647) : Met l yX2_exchange (Cond.code yX2_exchange cX2_exchange 4 (some .int) :: xU) (xrm 2 53) (va_Pc [.ref (ad i), .int (xI z1), .int (xI z2), .ref (ad j)] (xM D cA n ad en sz)) (va_Qi (fun r u => (¬ ((0 ≤ z1 ∧ z1 ≤ (min z2 (m : Int)) ∧ (min z2 (m : Int)) ≤ (m : Int)) ∧ 0 ≤ (0 : Int) ∧ (0 : Int) ≤ (k : Int) ∧ (k : Int) ≤ (k : Int)) ∧ r = xI (-1005) ∧ u = en) ∨ (((0 ≤ z1 ∧ z1 ≤ (min z2 (m : Int)) ∧ (min z2 (m : Int)) ≤ (m : Int)) ∧ 0 ≤ (0 : Int) ∧ (0 : Int) ≤ (k : Int) ∧ (k : Int) ≤ (k : Int)) ∧ 200 < (m : Int) - ((min z2 (m : Int)) - z1) + ((k : Int) - (0 : Int)) ∧ r = xI (-1007) ∧ u = en) ∨ (((0 ≤ z1 ∧ z1 ≤ (min z2 (m : Int)) ∧ (min z2 (m : Int)) ≤ (m : Int)) ∧ 0 ≤ (0 : Int) ∧ (0 : Int) ≤ (k : Int) ∧ (k : Int) ≤ (k : Int)) ∧ (m : Int) - ((min z2 (m : Int)) - z1) + ((k : Int) - (0 : Int)) ≤ 200 ∧ r = xI ((m : Int) - ((min z2 (m : Int)) - z1) + ((k : Int) - (0 : Int))) ∧ XR cA ad u i (Int.toNat ((m : Int) - ((min z2 (m : Int)) - z1) + ((k : Int) - (0 : Int)))) (sp_ed f (Int.toNat z1) (Int.toNat (min z2 (m : Int))) h (Int.toNat (0 : Int)) (Int.toNat ((k : Int) - (0 : Int)))) ∧ xO i (i + 2) en u)) (xE D n ad) (xA n ad sz)) 0 0 (xA n ad sz) := by
  refine xmet (by decide) (Nat.le_of_ble_eq_true rfl) (fun p e s mm args below meth c ls hx hb hrt hml hown hts hlocks hname hB hl => ?_)
  obtain ⟨⟨hP, hK, hN⟩, hsz, hDt⟩ := hB
  have hD : xD (xA n ad sz) n ad := xD_self hDt sz
  have hA : ∀ q : Nat, s.heap.size ≤ q → xA n ad sz q := fun q h => Or.inr (by rw [← hsz]; exact h)
  have hS : va_S (xA n ad sz) s.heap s.heap [] := va_S.rf
  have hown : s.vm.findClass RX2 = some mm.cls := hown
  have hl : lv_has ls 4 [(0, .ref (ad i)), (1, .int (xI z1)), (2, .int (xI z2)), (3, .ref (ad j))] := hl
  have hm := hr.2.2.1
  have hm2 := hq.2.2.1
  refine lv_aload_n hx hb dX2_exchange_0 rfl (lv_at hl 0 rfl) ?_
  refine lv_iload_n hx hb dX2_exchange_1 rfl (lv_at hl 1 rfl) ?_
  refine lv_iload_n hx hb dX2_exchange_2 rfl (lv_at hl 2 rfl) ?_
  refine lv_aload_n hx hb dX2_exchange_3 rfl (lv_at hl 0 rfl) ?_
  refine x_get (T := TX2) (N := 2) hx hb hts uX2 hown hK hP (i := i) (by omega) hr.1 rfl 1 (by decide) u_fl_RX2_15 rfl dX2_exchange_4 ?_
  refine x_min hx hb (hml.trans hl.1.symm) hts hown u_ml_RX2_49 (Nat.le_of_ble_eq_true rfl) (Nat.le_of_ble_eq_true rfl) (Nat.le_of_ble_eq_true rfl) (Nat.le_of_ble_eq_true rfl) (r := (min z2 (m : Int))) (by omega) (by omega) dX2_exchange_7 ?_
  refine lv_aload_n hx hb dX2_exchange_10 rfl (lv_at hl 3 rfl) ?_
  refine x_iconst hx hb dX2_exchange_11 ?_
  refine lv_aload_n hx hb dX2_exchange_12 rfl (lv_at hl 3 rfl) ?_
  refine x_get (T := TX2) (N := 2) hx hb hts uX2 hown hK hP (i := j) (by omega) hq.1 rfl 1 (by decide) u_fl_RX2_15 rfl dX2_exchange_13 ?_
  refine xm_i (i := i) (As := [.int (xI z1), .int (xI (min z2 (m : Int))), .ref (ad j), .int (xI 0), .int (xI (k : Int))]) (rest := []) ⟨hx, hb, hml, hown, hts⟩ hl.1 (c_X2_change l D cA n ad en _ hi hr hj hq hij z1 (min z2 (m : Int)) 0 (k : Int) (by omega) (by omega) (by omega) (by omega)) k_X2_change u_ml_RX2_45 hK hN hP (by omega) hr.1 rfl rfl rfl rfl (Nat.le_of_ble_eq_true rfl) ⟨Nat.le_of_ble_eq_true rfl, Nat.le_of_ble_eq_true rfl⟩ ⟨Nat.le_of_ble_eq_true rfl, Nat.le_of_ble_eq_true rfl⟩ dX2_exchange_16 hD hS hA (fun r1 en1 H locs hp1 hP hS => ?_)
  exact xe_i hx hb hrt hlocks hP hS (hp1) dX2_exchange_19

set_option maxRecDepth 20000 in
theorem c_X2_turnRound (l : Launch) (D : va_G) (cA : Nat → ClassId) (n : Nat) (ad : Nat → Nat) (en : Nat → va_E) (sz : Nat) {i m : Nat} {f : Nat → Int} (hi : i + 1 < n) (hr : XR cA ad en i m f) : Met l yX2_turnRound (Cond.code yX2_turnRound cX2_turnRound 4 none :: xU) (xrm 2 43) (va_Pc [.ref (ad i)] (xM D cA n ad en sz)) (va_Qv (fun u => XR cA ad u i m (fun t => f (m - 1 - t)) ∧ xO i (i + 2) en u) (xE D n ad) (xA n ad sz)) 0 0 (xA n ad sz) := by
  refine xmet (by decide) (Nat.le_of_ble_eq_true rfl) (fun p e s mm args below meth c ls hx hb hrt hml hown hts hlocks hname hB hl => ?_)
  obtain ⟨⟨hP, hK, hN⟩, hsz, hDt⟩ := hB
  have hD : xD (xA n ad sz) n ad := xD_self hDt sz
  have hA : ∀ q : Nat, s.heap.size ≤ q → xA n ad sz q := fun q h => Or.inr (by rw [← hsz]; exact h)
  have hS : va_S (xA n ad sz) s.heap s.heap [] := va_S.rf
  have hown : s.vm.findClass RX2 = some mm.cls := hown
  have hl : lv_has ls 4 [(0, .ref (ad i))] := hl
  have hm := hr.2.2.1
  refine x_iconst hx hb dX2_turnRound_0 ?_
  refine lv_istore_n (lv' := [(1, .int (xI 0)), (0, .ref (ad i))]) hx hb dX2_turnRound_1 rfl hl (by decide) rfl (fun ls hl => ?_)
  refine lv_aload_n hx hb dX2_turnRound_2 rfl (lv_at hl 1 rfl) ?_
  refine x_get (T := TX2) (N := 2) hx hb hts uX2 hown hK hP (i := i) (by omega) hr.1 rfl 1 (by decide) u_fl_RX2_15 rfl dX2_turnRound_3 ?_
  refine x_iconst hx hb dX2_turnRound_6 ?_
  refine x_isub hx hb dX2_turnRound_7 ?_
  refine lv_istore_n (lv' := [(2, .int (xI ((m : Int) - 1))), (1, .int (xI 0)), (0, .ref (ad i))]) hx hb dX2_turnRound_8 rfl hl (by decide) rfl (fun ls hl => ?_)
  have L9 : ∀ (nn : Nat) (k : Int) (hh : Int) (F : Nat → Int) (ew9 : Nat → va_E) (H : Heap) (locs : List Loc), (0 ≤ k ∧ hh = (m : Int) - 1 - k ∧ k ≤ m) → (∀ t : Nat, t < m → F t = if (t : Int) < k ∨ (m : Int) - 1 - k < t then f (m - 1 - t) else f t) → (((m : Int) - k).toNat) < nn → (XR cA ad ew9 i m F) → (xO i (i + 2) en ew9) → va_P D vwCl (xw n ad ew9) H → va_S (xA n ad sz) s.heap H locs → ∀ ls : Array Slot, lv_has ls 4 [(0, .ref (ad i)), (1, .int (xI k)), (2, .int (xI hh))] → W p l e (xrm 2 43) s mm args below meth c H locs 0 0 (MQ below (va_Qv (fun u => XR cA ad u i m (fun t => f (m - 1 - t)) ∧ xO i (i + 2) en u) (xE D n ad) (xA n ad sz)) args s 0 0 (xA n ad sz)) (F0 mm 9 ls []) := by
    intro nn
    induction nn with
    | zero =>
      intro k hh F ew9 H locs hk hF hmm hr ho hP hS ls hl
      exact absurd hmm (Nat.not_lt_zero _)
    | succ nn ih =>
      intro k hh F ew9 H locs hk hF hmm hr ho hP hS ls hl
      refine lv_iload_n hx hb dX2_turnRound_9 rfl (lv_at hl 1 rfl) ?_
      refine lv_iload_n hx hb dX2_turnRound_10 rfl (lv_at hl 2 rfl) ?_
      refine x_icmp_ge (tgt := 45) hx hb dX2_turnRound_11 (by decide) (by omega) (fun c_11 => ?_) (fun c_11 => ?_)
      · exact xe_v hx hb hrt hlocks hP hS (⟨hr.to rfl (fun t ht => by
        have h1 := hF t ht
        rw [h1]
        by_cases q3 : (t : Int) < k ∨ (m : Int) - 1 - k < t
        · rw [if_pos q3]
        · rw [if_neg q3, show m - 1 - t = t by omega]), ho⟩) dX2_turnRound_45
      · refine lv_aload_n hx hb dX2_turnRound_14 rfl (lv_at hl 0 rfl) ?_
        refine lv_iload_n hx hb dX2_turnRound_15 rfl (lv_at hl 1 rfl) ?_
        refine xv_i (i := i) (As := [.int (xI k)]) (rest := []) ⟨hx, hb, hml, hown, hts⟩ hl.1 (c_X2_signThere l D cA n ad ew9 (by omega) hr k (by omega)) k_X2_signThere u_ml_RX2_23 hK hN hP (by omega) hr.1 rfl rfl rfl rfl (Nat.le_of_ble_eq_true rfl) ⟨Nat.le_of_ble_eq_true rfl, Nat.le_of_ble_eq_true rfl⟩ ⟨Nat.le_of_ble_eq_true rfl, Nat.le_of_ble_eq_true rfl⟩ dX2_turnRound_16 ?_
        refine lv_istore_n (lv' := [(3, .int (xI (F (Int.toNat k)))), (0, .ref (ad i)), (1, .int (xI k)), (2, .int (xI hh))]) hx hb dX2_turnRound_19 rfl hl (by decide) rfl (fun ls hl => ?_)
        have hsg : 0 ≤ F (Int.toNat k) ∧ F (Int.toNat k) ≤ 255 := hr.2.2.2 _ (by omega)
        refine lv_aload_n hx hb dX2_turnRound_20 rfl (lv_at hl 1 rfl) ?_
        refine lv_iload_n hx hb dX2_turnRound_21 rfl (lv_at hl 2 rfl) ?_
        refine lv_aload_n hx hb dX2_turnRound_22 rfl (lv_at hl 1 rfl) ?_
        refine lv_iload_n hx hb dX2_turnRound_23 rfl (lv_at hl 3 rfl) ?_
        refine xv_i (i := i) (As := [.int (xI hh)]) (rest := [.int (xI k), .ref (ad i)]) ⟨hx, hb, hml, hown, hts⟩ hl.1 (c_X2_signThere l D cA n ad ew9 (by omega) hr hh (by omega)) k_X2_signThere u_ml_RX2_23 hK hN hP (by omega) hr.1 rfl rfl rfl rfl (Nat.le_of_ble_eq_true rfl) ⟨Nat.le_of_ble_eq_true rfl, Nat.le_of_ble_eq_true rfl⟩ ⟨Nat.le_of_ble_eq_true rfl, Nat.le_of_ble_eq_true rfl⟩ dX2_turnRound_24 ?_
        refine xm_v (i := i) (As := [.int (xI k), .int (xI (F (Int.toNat hh)))]) (rest := []) ⟨hx, hb, hml, hown, hts⟩ hl.1 (c_X2_write l D cA n ad ew9 _ (by omega) hr k (F (Int.toNat hh)) (by omega) (by have := hr.2.2.2 k.toNat (by omega); have := hr.2.2.2 hh.toNat (by omega); omega)) k_X2_write u_ml_RX2_27 hK hN hP (by omega) hr.1 rfl rfl rfl rfl (Nat.le_of_ble_eq_true rfl) ⟨Nat.le_of_ble_eq_true rfl, Nat.le_of_ble_eq_true rfl⟩ ⟨Nat.le_of_ble_eq_true rfl, Nat.le_of_ble_eq_true rfl⟩ dX2_turnRound_27 hD hS hA (fun en1 H locs hp1 hP hS => ?_)
        obtain ⟨hr, hp1w⟩ := hp1
        have ho := ho.tr hp1w
        refine lv_aload_n hx hb dX2_turnRound_30 rfl (lv_at hl 1 rfl) ?_
        refine lv_iload_n hx hb dX2_turnRound_31 rfl (lv_at hl 3 rfl) ?_
        refine lv_iload_n hx hb dX2_turnRound_32 rfl (lv_at hl 0 rfl) ?_
        refine xm_v (i := i) (As := [.int (xI hh), .int (xI (F (Int.toNat k)))]) (rest := []) ⟨hx, hb, hml, hown, hts⟩ hl.1 (c_X2_write l D cA n ad en1 _ (by omega) hr hh (F (Int.toNat k)) (by omega) (hsg)) k_X2_write u_ml_RX2_27 hK hN hP (by omega) hr.1 rfl rfl rfl rfl (Nat.le_of_ble_eq_true rfl) ⟨Nat.le_of_ble_eq_true rfl, Nat.le_of_ble_eq_true rfl⟩ ⟨Nat.le_of_ble_eq_true rfl, Nat.le_of_ble_eq_true rfl⟩ dX2_turnRound_33 hD hS hA (fun en2 H locs hp2 hP hS => ?_)
        obtain ⟨hr, hp2w⟩ := hp2
        have ho := ho.tr hp2w
        refine x_iinc (lv' := [(1, .int (xI (k + 1))), (3, .int (xI (F (Int.toNat k)))), (0, .ref (ad i)), (2, .int (xI hh))]) (k := 2) hx hb dX2_turnRound_36 hl rfl (by decide) rfl (fun ls hl => ?_)
        refine x_iinc (lv' := [(2, .int (xI (hh + (-1)))), (1, .int (xI (k + 1))), (3, .int (xI (F (Int.toNat k)))), (0, .ref (ad i))]) (k := 3) hx hb dX2_turnRound_39 hl rfl (by decide) rfl (fun ls hl => ?_)
        refine lv_goto (tgt := 9) hx hb dX2_turnRound_42 (by decide) ?_
        exact ih (k + 1) (hh + (-1)) _ en2 _ _ (by omega) (fun t ht => by
        have h1 := hF t ht
        have h2 := hF k.toNat (by omega)
        have h3 := hF hh.toNat (by omega)
        have e1 : (m - 1 - k.toNat : Nat) = hh.toNat := by omega
        have e2 : (m - 1 - hh.toNat : Nat) = k.toNat := by omega
        by_cases q1 : t = hh.toNat
        · subst q1
          rw [sp_up_s, if_pos (by omega), e2, h2, if_neg (by omega)]
        · rw [sp_up_n _ _ q1]
          by_cases q2 : t = k.toNat
          · subst q2
            rw [sp_up_s, if_pos (by omega), e1, h3, if_neg (by omega)]
          · rw [sp_up_n _ _ q2, h1]
            by_cases q3 : (t : Int) < k ∨ (m : Int) - 1 - k < t
            · rw [if_pos q3, if_pos (by omega)]
            · rw [if_neg q3, if_neg (by omega)]) (by omega) hr ho hP hS ls (lv_sub hl [3, 1, 0] rfl)
  exact L9 _ 0 ((m : Int) - 1) f en _ _ (by omega) (fun t ht => by rw [if_neg (by omega)]) (Nat.lt_succ_self _) hr xO.rf hP hS ls (lv_sub hl [2, 1, 0] rfl)

set_option maxRecDepth 20000 in
theorem c_X2_sameRegion (l : Launch) (D : va_G) (cA : Nat → ClassId) (n : Nat) (ad : Nat → Nat) (en : Nat → va_E) {i m : Nat} {f : Nat → Int} (hi : i + 1 < n) (hr : XR cA ad en i m f) {j k : Nat} {h : Nat → Int} (hj : j + 1 < n) (hq : XR cA ad en j k h) (z1 z2 z3 : Int) (hz1 : -2147483648 ≤ z1 ∧ z1 ≤ 2147483647) (hz2 : -2147483648 ≤ z2 ∧ z2 ≤ 2147483647) (hz3 : -2147483648 ≤ z3 ∧ z3 ≤ 2147483647) : Met l yX2_sameRegion (Cond.code yX2_sameRegion cX2_sameRegion 6 (some .boolean) :: xU) (xrm 2 42) (va_Pc [.ref (ad i), .int (xI z1), .ref (ad j), .int (xI z2), .int (xI z3)] (xB D cA n ad en)) (vp_Si (fun z => z = xb (sp_rg f m z1 h k z2 z3))) 0 0 (fun _ => False) := by
  refine xmet (by decide) (Nat.le_of_ble_eq_true rfl) (fun p e s mm args below meth c ls hx hb hrt hml hown hts hlocks hname hB hl => ?_)
  obtain ⟨hP, hK, hN⟩ := hB
  have hl : lv_has ls 6 [(0, .ref (ad i)), (1, .int (xI z1)), (2, .ref (ad j)), (3, .int (xI z2)), (4, .int (xI z3))] := hl
  have hm := hr.2.2.1
  have hm2 := hq.2.2.1
  refine lv_iload_n hx hb dX2_sameRegion_0 rfl (lv_at hl 1 rfl) ?_
  refine x_if_lt (tgt := 38) hx hb dX2_sameRegion_1 (by decide) (by omega) (fun c_1 => ?_) (fun c_1 => ?_)
  · refine x_iconst hx hb dX2_sameRegion_38 ?_
    exact xr_z hx hb hrt hlocks (xb_0 (fun q => by have := q.1; omega)) dX2_sameRegion_39
  · refine lv_iload_n hx hb dX2_sameRegion_4 rfl (lv_at hl 3 rfl) ?_
    refine x_if_lt (tgt := 38) hx hb dX2_sameRegion_5 (by decide) (by omega) (fun c_5 => ?_) (fun c_5 => ?_)
    · refine x_iconst hx hb dX2_sameRegion_38 ?_
      exact xr_z hx hb hrt hlocks (xb_0 (fun q => by have := q.1; omega)) dX2_sameRegion_39
    · refine lv_iload_n hx hb dX2_sameRegion_8 rfl (lv_at hl 1 rfl) ?_
      refine x_i2l hx hb dX2_sameRegion_9 (by omega) ?_
      refine lv_iload hx hb dX2_sameRegion_10 (lv_at hl 4 rfl) ?_
      refine x_i2l hx hb dX2_sameRegion_12 (by omega) ?_
      refine x_ladd hx hb dX2_sameRegion_13 ?_
      refine lv_aload_n hx hb dX2_sameRegion_14 rfl (lv_at hl 0 rfl) ?_
      refine x_get (T := TX2) (N := 2) hx hb hts uX2 hown hK hP (i := i) (by omega) hr.1 rfl 1 (by decide) u_fl_RX2_15 rfl dX2_sameRegion_15 ?_
      refine x_i2l hx hb dX2_sameRegion_18 (by omega) ?_
      refine x_lcmp hx hb dX2_sameRegion_19 (by omega) ?_
      refine x_if_gt (tgt := 38) hx hb dX2_sameRegion_20 (by decide) (xcmp_r _ _) (fun c_20 => ?_) (fun c_20 => ?_)
      · have c_20 := xcmp_gt.mp c_20
        refine x_iconst hx hb dX2_sameRegion_38 ?_
        exact xr_z hx hb hrt hlocks (xb_0 (fun q => by have := q.1; omega)) dX2_sameRegion_39
      · have c_20 := xcmp_le.mp c_20
        refine lv_iload_n hx hb dX2_sameRegion_23 rfl (lv_at hl 3 rfl) ?_
        refine x_i2l hx hb dX2_sameRegion_24 (by omega) ?_
        refine lv_iload hx hb dX2_sameRegion_25 (lv_at hl 4 rfl) ?_
        refine x_i2l hx hb dX2_sameRegion_27 (by omega) ?_
        refine x_ladd hx hb dX2_sameRegion_28 ?_
        refine lv_aload_n hx hb dX2_sameRegion_29 rfl (lv_at hl 2 rfl) ?_
        refine x_get (T := TX2) (N := 2) hx hb hts uX2 hown hK hP (i := j) (by omega) hq.1 rfl 1 (by decide) u_fl_RX2_15 rfl dX2_sameRegion_30 ?_
        refine x_i2l hx hb dX2_sameRegion_33 (by omega) ?_
        refine x_lcmp hx hb dX2_sameRegion_34 (by omega) ?_
        refine x_if_le (tgt := 40) hx hb dX2_sameRegion_35 (by decide) (xcmp_r _ _) (fun c_35 => ?_) (fun c_35 => ?_)
        · have c_35 := xcmp_le.mp c_35
          refine x_iconst hx hb dX2_sameRegion_40 ?_
          refine lv_istore (lv' := [(5, .int (xI 0)), (0, .ref (ad i)), (1, .int (xI z1)), (2, .ref (ad j)), (3, .int (xI z2)), (4, .int (xI z3))]) hx hb dX2_sameRegion_41 hl (by decide) rfl (fun ls hl => ?_)
          have L43 : ∀ (nn : Nat) (t : Int), (0 ≤ t ∧ t ≤ 200) → (∀ u : Nat, (u : Int) < t → f (z1.toNat + u) = h (z2.toNat + u)) → ((z3 - t).toNat) < nn → ∀ ls : Array Slot, lv_has ls 6 [(0, .ref (ad i)), (1, .int (xI z1)), (2, .ref (ad j)), (3, .int (xI z2)), (4, .int (xI z3)), (5, .int (xI t))] → W p l e (xrm 2 42) s mm args below meth c s.heap [] 0 0 (MQ below (vp_Si (fun z => z = xb (sp_rg f m z1 h k z2 z3))) args s 0 0 (fun _ => False)) (F0 mm 43 ls []) := by
            intro nn
            induction nn with
            | zero =>
              intro t  ht hF hmm  ls hl
              exact absurd hmm (Nat.not_lt_zero _)
            | succ nn ih =>
              intro t  ht hF hmm  ls hl
              refine lv_iload hx hb dX2_sameRegion_43 (lv_at hl 5 rfl) ?_
              refine lv_iload hx hb dX2_sameRegion_45 (lv_at hl 4 rfl) ?_
              refine x_icmp_ge (tgt := 77) hx hb dX2_sameRegion_47 (by decide) (by omega) (fun c_47 => ?_) (fun c_47 => ?_)
              · refine x_iconst hx hb dX2_sameRegion_77 ?_
                exact xr_z hx hb hrt hlocks (xb_1 ⟨by omega, fun u hu => hF u (by omega)⟩) dX2_sameRegion_78
              · refine lv_aload_n hx hb dX2_sameRegion_50 rfl (lv_at hl 0 rfl) ?_
                refine lv_iload_n hx hb dX2_sameRegion_51 rfl (lv_at hl 1 rfl) ?_
                refine lv_iload hx hb dX2_sameRegion_52 (lv_at hl 5 rfl) ?_
                refine x_iadd hx hb dX2_sameRegion_54 ?_
                refine xv_i (i := i) (As := [.int (xI (z1 + t))]) (rest := []) ⟨hx, hb, hml, hown, hts⟩ hl.1 (c_X2_signThere l D cA n ad en (by omega) hr (z1 + t) (by omega)) k_X2_signThere u_ml_RX2_23 hK hN hP (by omega) hr.1 rfl rfl rfl rfl (Nat.le_of_ble_eq_true rfl) ⟨Nat.le_of_ble_eq_true rfl, Nat.le_of_ble_eq_true rfl⟩ ⟨Nat.le_of_ble_eq_true rfl, Nat.le_of_ble_eq_true rfl⟩ dX2_sameRegion_55 ?_
                refine lv_aload_n hx hb dX2_sameRegion_58 rfl (lv_at hl 2 rfl) ?_
                refine lv_iload_n hx hb dX2_sameRegion_59 rfl (lv_at hl 3 rfl) ?_
                refine lv_iload hx hb dX2_sameRegion_60 (lv_at hl 5 rfl) ?_
                refine x_iadd hx hb dX2_sameRegion_62 ?_
                refine xv_i (i := j) (As := [.int (xI (z2 + t))]) (rest := [.int (xI (f (Int.toNat (z1 + t))))]) ⟨hx, hb, hml, hown, hts⟩ hl.1 (c_X2_signThere l D cA n ad en (by omega) hq (z2 + t) (by omega)) k_X2_signThere u_ml_RX2_23 hK hN hP (by omega) hq.1 rfl rfl rfl rfl (Nat.le_of_ble_eq_true rfl) ⟨Nat.le_of_ble_eq_true rfl, Nat.le_of_ble_eq_true rfl⟩ ⟨Nat.le_of_ble_eq_true rfl, Nat.le_of_ble_eq_true rfl⟩ dX2_sameRegion_63 ?_
                refine x_icmp_eq (tgt := 71) hx hb dX2_sameRegion_66 (by decide) (by have := hr.2.2.2 (Int.toNat (z1 + t)) (by omega); have := hq.2.2.2 (Int.toNat (z2 + t)) (by omega); omega) (fun c_66 => ?_) (fun c_66 => ?_)
                · refine x_iinc (lv' := [(5, .int (xI (t + 1))), (0, .ref (ad i)), (1, .int (xI z1)), (2, .ref (ad j)), (3, .int (xI z2)), (4, .int (xI z3))]) (k := 5) hx hb dX2_sameRegion_71 hl rfl (by decide) rfl (fun ls hl => ?_)
                  refine lv_goto (tgt := 43) hx hb dX2_sameRegion_74 (by decide) ?_
                  exact ih (t + 1) (by omega) (fun u hu => by
        by_cases q : (u : Int) = t
        · rw [show z1.toNat + u = Int.toNat (z1 + t) by omega, show z2.toNat + u = Int.toNat (z2 + t) by omega]
          exact c_66
        · exact hF u (by omega)) (by omega)  ls (lv_sub hl [1, 2, 3, 4, 5, 0] rfl)
                · refine x_iconst hx hb dX2_sameRegion_69 ?_
                  exact xr_z hx hb hrt hlocks (xb_0 (fun q => c_66 (by
        have h1 := q.2 t.toNat (by omega)
        rw [show Int.toNat (z1 + t) = z1.toNat + t.toNat by omega, show Int.toNat (z2 + t) = z2.toNat + t.toNat by omega]
        exact h1))) dX2_sameRegion_70
          exact L43 _ 0 (by omega) (fun u hu => absurd hu (by omega)) (Nat.lt_succ_self _)  ls (lv_sub hl [1, 2, 3, 4, 5, 0] rfl)
        · have c_35 := xcmp_gt.mp c_35
          refine x_iconst hx hb dX2_sameRegion_38 ?_
          exact xr_z hx hb hrt hlocks (xb_0 (fun q => by have := q.1; omega)) dX2_sameRegion_39

set_option maxRecDepth 20000 in
theorem c_X2_hasStanding (l : Launch) (D : va_G) (cA : Nat → ClassId) (n : Nat) (ad : Nat → Nat) (en : Nat → va_E) {i m : Nat} {f : Nat → Int} (hi : i + 1 < n) (hr : XR cA ad en i m f) {j k : Nat} {h : Nat → Int} (hj : j + 1 < n) (hq : XR cA ad en j k h) (z1 : Int) (hz1 : -2147483648 ≤ z1 ∧ z1 ≤ 2147483647) : Met l yX2_hasStanding (Cond.code yX2_hasStanding cX2_hasStanding 3 (some .boolean) :: xU) (xrm 3 67) (va_Pc [.ref (ad i), .ref (ad j), .int (xI z1)] (xB D cA n ad en)) (vp_Si (fun z => z = xb (sp_st f m h k z1))) 0 0 (fun _ => False) := by
  refine xmet (by decide) (Nat.le_of_ble_eq_true rfl) (fun p e s mm args below meth c ls hx hb hrt hml hown hts hlocks hname hB hl => ?_)
  obtain ⟨hP, hK, hN⟩ := hB
  have hl : lv_has ls 3 [(0, .ref (ad i)), (1, .ref (ad j)), (2, .int (xI z1))] := hl
  have hm := hr.2.2.1
  have hm2 := hq.2.2.1
  refine lv_aload_n hx hb dX2_hasStanding_0 rfl (lv_at hl 0 rfl) ?_
  refine lv_iload_n hx hb dX2_hasStanding_1 rfl (lv_at hl 2 rfl) ?_
  refine lv_aload_n hx hb dX2_hasStanding_2 rfl (lv_at hl 1 rfl) ?_
  refine x_iconst hx hb dX2_hasStanding_3 ?_
  refine lv_aload_n hx hb dX2_hasStanding_4 rfl (lv_at hl 1 rfl) ?_
  refine x_get (T := TX2) (N := 2) hx hb hts uX2 hown hK hP (i := j) (by omega) hq.1 rfl 1 (by decide) u_fl_RX2_15 rfl dX2_hasStanding_5 ?_
  refine xv_i (i := i) (As := [.int (xI z1), .ref (ad j), .int (xI 0), .int (xI (k : Int))]) (rest := []) ⟨hx, hb, hml, hown, hts⟩ hl.1 (c_X2_sameRegion l D cA n ad en (by omega) hr (by omega) hq z1 0 (k : Int) (by omega) (by omega) (by omega)) k_X2_sameRegion u_ml_RX2_55 hK hN hP (by omega) hr.1 rfl rfl rfl rfl (Nat.le_of_ble_eq_true rfl) ⟨Nat.le_of_ble_eq_true rfl, Nat.le_of_ble_eq_true rfl⟩ ⟨Nat.le_of_ble_eq_true rfl, Nat.le_of_ble_eq_true rfl⟩ dX2_hasStanding_8 ?_
  exact xr_z hx hb hrt hlocks (xb_iff sp_rg_st) dX2_hasStanding_11

set_option maxRecDepth 20000 in
theorem c_X2_findForward (l : Launch) (D : va_G) (cA : Nat → ClassId) (n : Nat) (ad : Nat → Nat) (en : Nat → va_E) {i m : Nat} {f : Nat → Int} (hi : i + 1 < n) (hr : XR cA ad en i m f) {j k : Nat} {h : Nat → Int} (hj : j + 1 < n) (hq : XR cA ad en j k h) (z1 : Int) (hz1 : -2147483648 ≤ z1 ∧ z1 ≤ 2147483647) : Met l yX2_findForward (Cond.code yX2_findForward cX2_findForward 4 (some .int) :: xU) (xrm 4 89) (va_Pc [.ref (ad i), .ref (ad j), .int (xI z1)] (xB D cA n ad en)) (vp_Si (fun z => z = xI (sp_find (sp_st f m h k) (max 0 (min z1 (m : Int))) ((m : Int) + 1)))) 0 0 (fun _ => False) := by
  refine xmet (by decide) (Nat.le_of_ble_eq_true rfl) (fun p e s mm args below meth c ls hx hb hrt hml hown hts hlocks hname hB hl => ?_)
  obtain ⟨hP, hK, hN⟩ := hB
  have hl : lv_has ls 4 [(0, .ref (ad i)), (1, .ref (ad j)), (2, .int (xI z1))] := hl
  have hm := hr.2.2.1
  have hm2 := hq.2.2.1
  refine x_iconst hx hb dX2_findForward_0 ?_
  refine lv_iload_n hx hb dX2_findForward_1 rfl (lv_at hl 2 rfl) ?_
  refine lv_aload_n hx hb dX2_findForward_2 rfl (lv_at hl 0 rfl) ?_
  refine x_get (T := TX2) (N := 2) hx hb hts uX2 hown hK hP (i := i) (by omega) hr.1 rfl 1 (by decide) u_fl_RX2_15 rfl dX2_findForward_3 ?_
  refine x_min hx hb (hml.trans hl.1.symm) hts hown u_ml_RX2_49 (Nat.le_of_ble_eq_true rfl) (Nat.le_of_ble_eq_true rfl) (Nat.le_of_ble_eq_true rfl) (Nat.le_of_ble_eq_true rfl) (r := (min z1 (m : Int))) (by omega) (by omega) dX2_findForward_6 ?_
  refine x_max hx hb (hml.trans hl.1.symm) hts hown u_ml_RX2_59 (Nat.le_of_ble_eq_true rfl) (Nat.le_of_ble_eq_true rfl) (Nat.le_of_ble_eq_true rfl) (Nat.le_of_ble_eq_true rfl) (r := (max 0 (min z1 (m : Int)))) (by omega) (by omega) dX2_findForward_9 ?_
  refine lv_istore_n (lv' := [(3, .int (xI (max 0 (min z1 (m : Int))))), (0, .ref (ad i)), (1, .ref (ad j)), (2, .int (xI z1))]) hx hb dX2_findForward_12 rfl hl (by decide) rfl (fun ls hl => ?_)
  have L13 : ∀ (nn : Nat) (a : Int), (0 ≤ a ∧ a ≤ (m : Int) + 1) → (sp_find (sp_st f m h k) a ((m : Int) + 1) = sp_find (sp_st f m h k) (max 0 (min z1 (m : Int))) ((m : Int) + 1)) → (((m : Int) + 1 - a).toNat) < nn → ∀ ls : Array Slot, lv_has ls 4 [(0, .ref (ad i)), (1, .ref (ad j)), (3, .int (xI a))] → W p l e (xrm 4 89) s mm args below meth c s.heap [] 0 0 (MQ below (vp_Si (fun z => z = xI (sp_find (sp_st f m h k) (max 0 (min z1 (m : Int))) ((m : Int) + 1)))) args s 0 0 (fun _ => False)) (F0 mm 13 ls []) := by
    intro nn
    induction nn with
    | zero =>
      intro a  ha hF hmm  ls hl
      exact absurd hmm (Nat.not_lt_zero _)
    | succ nn ih =>
      intro a  ha hF hmm  ls hl
      refine lv_iload_n hx hb dX2_findForward_13 rfl (lv_at hl 2 rfl) ?_
      refine lv_aload_n hx hb dX2_findForward_14 rfl (lv_at hl 0 rfl) ?_
      refine x_get (T := TX2) (N := 2) hx hb hts uX2 hown hK hP (i := i) (by omega) hr.1 rfl 1 (by decide) u_fl_RX2_15 rfl dX2_findForward_15 ?_
      refine x_icmp_gt (tgt := 38) hx hb dX2_findForward_18 (by decide) (by omega) (fun c_18 => ?_) (fun c_18 => ?_)
      · refine x_iconst hx hb dX2_findForward_38 ?_
        exact xr_i hx hb hrt hlocks (by rw [← hF, sp_find_e (by omega)]) dX2_findForward_39
      · refine lv_aload_n hx hb dX2_findForward_21 rfl (lv_at hl 0 rfl) ?_
        refine lv_aload_n hx hb dX2_findForward_22 rfl (lv_at hl 1 rfl) ?_
        refine lv_iload_n hx hb dX2_findForward_23 rfl (lv_at hl 2 rfl) ?_
        refine xv_i (i := i) (As := [.ref (ad j), .int (xI a)]) (rest := []) ⟨hx, hb, hml, hown, hts⟩ hl.1 (c_X2_hasStanding l D cA n ad en (by omega) hr (by omega) hq a (by omega)) k_X2_hasStanding u_ml_RX2_62 hK hN hP (by omega) hr.1 rfl rfl rfl rfl (Nat.le_of_ble_eq_true rfl) ⟨Nat.le_of_ble_eq_true rfl, Nat.le_of_ble_eq_true rfl⟩ ⟨Nat.le_of_ble_eq_true rfl, Nat.le_of_ble_eq_true rfl⟩ dX2_findForward_24 ?_
        refine x_ifb_eq (tgt := 32) hx hb dX2_findForward_27 (by decide)  (fun c_27 => ?_) (fun c_27 => ?_)
        · refine x_iinc (lv' := [(3, .int (xI (a + 1))), (0, .ref (ad i)), (1, .ref (ad j))]) (k := 2) hx hb dX2_findForward_32 hl rfl (by decide) rfl (fun ls hl => ?_)
          refine lv_goto (tgt := 13) hx hb dX2_findForward_35 (by decide) ?_
          exact ih (a + 1) (by omega) ((sp_find_f (P := (sp_st f m h k)) (by omega) c_27).symm.trans hF) (by omega)  ls (lv_sub hl [1, 2, 0] rfl)
        · refine lv_iload_n hx hb dX2_findForward_30 rfl (lv_at hl 2 rfl) ?_
          exact xr_i hx hb hrt hlocks (by rw [← hF, sp_find_t (P := (sp_st f m h k)) (by omega) c_27]) dX2_findForward_31
  exact L13 _ (max 0 (min z1 (m : Int))) (by omega) rfl (Nat.lt_succ_self _)  ls (lv_sub hl [1, 2, 0] rfl)

set_option maxRecDepth 20000 in
theorem c_X2_findBackward (l : Launch) (D : va_G) (cA : Nat → ClassId) (n : Nat) (ad : Nat → Nat) (en : Nat → va_E) {i m : Nat} {f : Nat → Int} (hi : i + 1 < n) (hr : XR cA ad en i m f) {j k : Nat} {h : Nat → Int} (hj : j + 1 < n) (hq : XR cA ad en j k h) (z1 : Int) (hz1 : -2147483648 ≤ z1 ∧ z1 ≤ 2147483647) : Met l yX2_findBackward (Cond.code yX2_findBackward cX2_findBackward 4 (some .int) :: xU) (xrm 4 89) (va_Pc [.ref (ad i), .ref (ad j), .int (xI z1)] (xB D cA n ad en)) (vp_Si (fun z => z = xI (sp_rfind (sp_st f m h k) (min z1 (m : Int))))) 0 0 (fun _ => False) := by
  refine xmet (by decide) (Nat.le_of_ble_eq_true rfl) (fun p e s mm args below meth c ls hx hb hrt hml hown hts hlocks hname hB hl => ?_)
  obtain ⟨hP, hK, hN⟩ := hB
  have hl : lv_has ls 4 [(0, .ref (ad i)), (1, .ref (ad j)), (2, .int (xI z1))] := hl
  have hm := hr.2.2.1
  have hm2 := hq.2.2.1
  refine lv_iload_n hx hb dX2_findBackward_0 rfl (lv_at hl 2 rfl) ?_
  refine lv_aload_n hx hb dX2_findBackward_1 rfl (lv_at hl 0 rfl) ?_
  refine x_get (T := TX2) (N := 2) hx hb hts uX2 hown hK hP (i := i) (by omega) hr.1 rfl 1 (by decide) u_fl_RX2_15 rfl dX2_findBackward_2 ?_
  refine x_min hx hb (hml.trans hl.1.symm) hts hown u_ml_RX2_49 (Nat.le_of_ble_eq_true rfl) (Nat.le_of_ble_eq_true rfl) (Nat.le_of_ble_eq_true rfl) (Nat.le_of_ble_eq_true rfl) (r := (min z1 (m : Int))) (by omega) (by omega) dX2_findBackward_5 ?_
  refine lv_istore_n (lv' := [(3, .int (xI (min z1 (m : Int)))), (0, .ref (ad i)), (1, .ref (ad j)), (2, .int (xI z1))]) hx hb dX2_findBackward_8 rfl hl (by decide) rfl (fun ls hl => ?_)
  have L9 : ∀ (nn : Nat) (a : Int), (a ≤ (m : Int) ∧ -2147483648 ≤ a) → (sp_rfind (sp_st f m h k) a = sp_rfind (sp_st f m h k) (min z1 (m : Int))) → ((a + 1).toNat) < nn → ∀ ls : Array Slot, lv_has ls 4 [(0, .ref (ad i)), (1, .ref (ad j)), (3, .int (xI a))] → W p l e (xrm 4 89) s mm args below meth c s.heap [] 0 0 (MQ below (vp_Si (fun z => z = xI (sp_rfind (sp_st f m h k) (min z1 (m : Int))))) args s 0 0 (fun _ => False)) (F0 mm 9 ls []) := by
    intro nn
    induction nn with
    | zero =>
      intro a  ha hF hmm  ls hl
      exact absurd hmm (Nat.not_lt_zero _)
    | succ nn ih =>
      intro a  ha hF hmm  ls hl
      refine lv_iload_n hx hb dX2_findBackward_9 rfl (lv_at hl 2 rfl) ?_
      refine x_if_lt (tgt := 30) hx hb dX2_findBackward_10 (by decide) (by omega) (fun c_10 => ?_) (fun c_10 => ?_)
      · refine x_iconst hx hb dX2_findBackward_30 ?_
        exact xr_i hx hb hrt hlocks (by rw [← hF, sp_rfind_e (by omega)]) dX2_findBackward_31
      · refine lv_aload_n hx hb dX2_findBackward_13 rfl (lv_at hl 0 rfl) ?_
        refine lv_aload_n hx hb dX2_findBackward_14 rfl (lv_at hl 1 rfl) ?_
        refine lv_iload_n hx hb dX2_findBackward_15 rfl (lv_at hl 2 rfl) ?_
        refine xv_i (i := i) (As := [.ref (ad j), .int (xI a)]) (rest := []) ⟨hx, hb, hml, hown, hts⟩ hl.1 (c_X2_hasStanding l D cA n ad en (by omega) hr (by omega) hq a (by omega)) k_X2_hasStanding u_ml_RX2_62 hK hN hP (by omega) hr.1 rfl rfl rfl rfl (Nat.le_of_ble_eq_true rfl) ⟨Nat.le_of_ble_eq_true rfl, Nat.le_of_ble_eq_true rfl⟩ ⟨Nat.le_of_ble_eq_true rfl, Nat.le_of_ble_eq_true rfl⟩ dX2_findBackward_16 ?_
        refine x_ifb_eq (tgt := 24) hx hb dX2_findBackward_19 (by decide)  (fun c_19 => ?_) (fun c_19 => ?_)
        · refine x_iinc (lv' := [(3, .int (xI (a + (-1)))), (0, .ref (ad i)), (1, .ref (ad j))]) (k := 2) hx hb dX2_findBackward_24 hl rfl (by decide) rfl (fun ls hl => ?_)
          refine lv_goto (tgt := 9) hx hb dX2_findBackward_27 (by decide) ?_
          exact ih (a + (-1)) (by omega) ((sp_rfind_f (P := (sp_st f m h k)) (by omega) c_19).symm.trans hF) (by omega)  ls (lv_sub hl [1, 2, 0] rfl)
        · refine lv_iload_n hx hb dX2_findBackward_22 rfl (lv_at hl 2 rfl) ?_
          exact xr_i hx hb hrt hlocks (by rw [← hF, sp_rfind_t (P := (sp_st f m h k)) (by omega) c_19]) dX2_findBackward_23
  exact L9 _ (min z1 (m : Int)) (by omega) rfl (Nat.lt_succ_self _)  ls (lv_sub hl [1, 2, 0] rfl)

set_option maxRecDepth 20000 in
theorem c_X2_signForward (l : Launch) (D : va_G) (cA : Nat → ClassId) (n : Nat) (ad : Nat → Nat) (en : Nat → va_E) {i m : Nat} {f : Nat → Int} (hi : i + 1 < n) (hr : XR cA ad en i m f) (z1 z2 : Int) (hz1 : -2147483648 ≤ z1 ∧ z1 ≤ 2147483647) (hz2 : -2147483648 ≤ z2 ∧ z2 ≤ 2147483647) : Met l yX2_signForward (Cond.code yX2_signForward cX2_signForward 4 (some .int) :: xU) (xrm 2 42) (va_Pc [.ref (ad i), .int (xI z1), .int (xI z2)] (xB D cA n ad en)) (vp_Si (fun z => z = xI (sp_find (fun q : Int => f q.toNat = z1) (max 0 z2) (m : Int)))) 0 0 (fun _ => False) := by
  refine xmet (by decide) (Nat.le_of_ble_eq_true rfl) (fun p e s mm args below meth c ls hx hb hrt hml hown hts hlocks hname hB hl => ?_)
  obtain ⟨hP, hK, hN⟩ := hB
  have hl : lv_has ls 4 [(0, .ref (ad i)), (1, .int (xI z1)), (2, .int (xI z2))] := hl
  have hm := hr.2.2.1
  refine x_iconst hx hb dX2_signForward_0 ?_
  refine lv_iload_n hx hb dX2_signForward_1 rfl (lv_at hl 2 rfl) ?_
  refine x_max hx hb (hml.trans hl.1.symm) hts hown u_ml_RX2_59 (Nat.le_of_ble_eq_true rfl) (Nat.le_of_ble_eq_true rfl) (Nat.le_of_ble_eq_true rfl) (Nat.le_of_ble_eq_true rfl) (r := (max 0 z2)) (by omega) (by omega) dX2_signForward_2 ?_
  refine lv_istore_n (lv' := [(3, .int (xI (max 0 z2))), (0, .ref (ad i)), (1, .int (xI z1)), (2, .int (xI z2))]) hx hb dX2_signForward_5 rfl hl (by decide) rfl (fun ls hl => ?_)
  have L6 : ∀ (nn : Nat) (a : Int), (0 ≤ a ∧ a ≤ 2147483647) → (sp_find (fun q : Int => f q.toNat = z1) a (m : Int) = sp_find (fun q : Int => f q.toNat = z1) (max 0 z2) (m : Int)) → (((m : Int) - a).toNat) < nn → ∀ ls : Array Slot, lv_has ls 4 [(0, .ref (ad i)), (1, .int (xI z1)), (3, .int (xI a))] → W p l e (xrm 2 42) s mm args below meth c s.heap [] 0 0 (MQ below (vp_Si (fun z => z = xI (sp_find (fun q : Int => f q.toNat = z1) (max 0 z2) (m : Int)))) args s 0 0 (fun _ => False)) (F0 mm 6 ls []) := by
    intro nn
    induction nn with
    | zero =>
      intro a  ha hF hmm  ls hl
      exact absurd hmm (Nat.not_lt_zero _)
    | succ nn ih =>
      intro a  ha hF hmm  ls hl
      refine lv_iload_n hx hb dX2_signForward_6 rfl (lv_at hl 2 rfl) ?_
      refine lv_aload_n hx hb dX2_signForward_7 rfl (lv_at hl 0 rfl) ?_
      refine x_get (T := TX2) (N := 2) hx hb hts uX2 hown hK hP (i := i) (by omega) hr.1 rfl 1 (by decide) u_fl_RX2_15 rfl dX2_signForward_8 ?_
      refine x_icmp_ge (tgt := 31) hx hb dX2_signForward_11 (by decide) (by omega) (fun c_11 => ?_) (fun c_11 => ?_)
      · refine x_iconst hx hb dX2_signForward_31 ?_
        exact xr_i hx hb hrt hlocks (by rw [← hF, sp_find_e (by omega)]) dX2_signForward_32
      · refine lv_aload_n hx hb dX2_signForward_14 rfl (lv_at hl 0 rfl) ?_
        refine lv_iload_n hx hb dX2_signForward_15 rfl (lv_at hl 2 rfl) ?_
        refine xv_i (i := i) (As := [.int (xI a)]) (rest := []) ⟨hx, hb, hml, hown, hts⟩ hl.1 (c_X2_signThere l D cA n ad en (by omega) hr a (by omega)) k_X2_signThere u_ml_RX2_23 hK hN hP (by omega) hr.1 rfl rfl rfl rfl (Nat.le_of_ble_eq_true rfl) ⟨Nat.le_of_ble_eq_true rfl, Nat.le_of_ble_eq_true rfl⟩ ⟨Nat.le_of_ble_eq_true rfl, Nat.le_of_ble_eq_true rfl⟩ dX2_signForward_16 ?_
        refine lv_iload_n hx hb dX2_signForward_19 rfl (lv_at hl 1 rfl) ?_
        refine x_icmp_ne (tgt := 25) hx hb dX2_signForward_20 (by decide) (by have := hr.2.2.2 a.toNat (by omega); omega) (fun c_20 => ?_) (fun c_20 => ?_)
        · refine x_iinc (lv' := [(3, .int (xI (a + 1))), (0, .ref (ad i)), (1, .int (xI z1))]) (k := 2) hx hb dX2_signForward_25 hl rfl (by decide) rfl (fun ls hl => ?_)
          refine lv_goto (tgt := 6) hx hb dX2_signForward_28 (by decide) ?_
          exact ih (a + 1) (by omega) ((sp_find_f (P := (fun q : Int => f q.toNat = z1)) (by omega) c_20).symm.trans hF) (by omega)  ls (lv_sub hl [1, 2, 0] rfl)
        · refine lv_iload_n hx hb dX2_signForward_23 rfl (lv_at hl 2 rfl) ?_
          exact xr_i hx hb hrt hlocks (by rw [← hF, sp_find_t (P := (fun q : Int => f q.toNat = z1)) (by omega) c_20]) dX2_signForward_24
  exact L6 _ (max 0 z2) (by omega) rfl (Nat.lt_succ_self _)  ls (lv_sub hl [1, 2, 0] rfl)

set_option maxRecDepth 20000 in
theorem c_X2_signBackward (l : Launch) (D : va_G) (cA : Nat → ClassId) (n : Nat) (ad : Nat → Nat) (en : Nat → va_E) {i m : Nat} {f : Nat → Int} (hi : i + 1 < n) (hr : XR cA ad en i m f) (z1 z2 : Int) (hz1 : -2147483648 ≤ z1 ∧ z1 ≤ 2147483647) (hz2 : -2147483648 ≤ z2 ∧ z2 ≤ 2147483647) : Met l yX2_signBackward (Cond.code yX2_signBackward cX2_signBackward 4 (some .int) :: xU) (xrm 2 42) (va_Pc [.ref (ad i), .int (xI z1), .int (xI z2)] (xB D cA n ad en)) (vp_Si (fun z => z = xI (sp_rfind (fun q : Int => f q.toNat = z1) (min z2 ((m : Int) - 1))))) 0 0 (fun _ => False) := by
  refine xmet (by decide) (Nat.le_of_ble_eq_true rfl) (fun p e s mm args below meth c ls hx hb hrt hml hown hts hlocks hname hB hl => ?_)
  obtain ⟨hP, hK, hN⟩ := hB
  have hl : lv_has ls 4 [(0, .ref (ad i)), (1, .int (xI z1)), (2, .int (xI z2))] := hl
  have hm := hr.2.2.1
  refine lv_iload_n hx hb dX2_signBackward_0 rfl (lv_at hl 2 rfl) ?_
  refine lv_aload_n hx hb dX2_signBackward_1 rfl (lv_at hl 0 rfl) ?_
  refine x_get (T := TX2) (N := 2) hx hb hts uX2 hown hK hP (i := i) (by omega) hr.1 rfl 1 (by decide) u_fl_RX2_15 rfl dX2_signBackward_2 ?_
  refine x_iconst hx hb dX2_signBackward_5 ?_
  refine x_isub hx hb dX2_signBackward_6 ?_
  refine x_min hx hb (hml.trans hl.1.symm) hts hown u_ml_RX2_49 (Nat.le_of_ble_eq_true rfl) (Nat.le_of_ble_eq_true rfl) (Nat.le_of_ble_eq_true rfl) (Nat.le_of_ble_eq_true rfl) (r := (min z2 ((m : Int) - 1))) (by omega) (by omega) dX2_signBackward_7 ?_
  refine lv_istore_n (lv' := [(3, .int (xI (min z2 ((m : Int) - 1)))), (0, .ref (ad i)), (1, .int (xI z1)), (2, .int (xI z2))]) hx hb dX2_signBackward_10 rfl hl (by decide) rfl (fun ls hl => ?_)
  have L11 : ∀ (nn : Nat) (a : Int), (a ≤ (m : Int) - 1 ∧ -2147483648 ≤ a) → (sp_rfind (fun q : Int => f q.toNat = z1) a = sp_rfind (fun q : Int => f q.toNat = z1) (min z2 ((m : Int) - 1))) → ((a + 1).toNat) < nn → ∀ ls : Array Slot, lv_has ls 4 [(0, .ref (ad i)), (1, .int (xI z1)), (3, .int (xI a))] → W p l e (xrm 2 42) s mm args below meth c s.heap [] 0 0 (MQ below (vp_Si (fun z => z = xI (sp_rfind (fun q : Int => f q.toNat = z1) (min z2 ((m : Int) - 1))))) args s 0 0 (fun _ => False)) (F0 mm 11 ls []) := by
    intro nn
    induction nn with
    | zero =>
      intro a  ha hF hmm  ls hl
      exact absurd hmm (Nat.not_lt_zero _)
    | succ nn ih =>
      intro a  ha hF hmm  ls hl
      refine lv_iload_n hx hb dX2_signBackward_11 rfl (lv_at hl 2 rfl) ?_
      refine x_if_lt (tgt := 32) hx hb dX2_signBackward_12 (by decide) (by omega) (fun c_12 => ?_) (fun c_12 => ?_)
      · refine x_iconst hx hb dX2_signBackward_32 ?_
        exact xr_i hx hb hrt hlocks (by rw [← hF, sp_rfind_e (by omega)]) dX2_signBackward_33
      · refine lv_aload_n hx hb dX2_signBackward_15 rfl (lv_at hl 0 rfl) ?_
        refine lv_iload_n hx hb dX2_signBackward_16 rfl (lv_at hl 2 rfl) ?_
        refine xv_i (i := i) (As := [.int (xI a)]) (rest := []) ⟨hx, hb, hml, hown, hts⟩ hl.1 (c_X2_signThere l D cA n ad en (by omega) hr a (by omega)) k_X2_signThere u_ml_RX2_23 hK hN hP (by omega) hr.1 rfl rfl rfl rfl (Nat.le_of_ble_eq_true rfl) ⟨Nat.le_of_ble_eq_true rfl, Nat.le_of_ble_eq_true rfl⟩ ⟨Nat.le_of_ble_eq_true rfl, Nat.le_of_ble_eq_true rfl⟩ dX2_signBackward_17 ?_
        refine lv_iload_n hx hb dX2_signBackward_20 rfl (lv_at hl 1 rfl) ?_
        refine x_icmp_ne (tgt := 26) hx hb dX2_signBackward_21 (by decide) (by have := hr.2.2.2 a.toNat (by omega); omega) (fun c_21 => ?_) (fun c_21 => ?_)
        · refine x_iinc (lv' := [(3, .int (xI (a + (-1)))), (0, .ref (ad i)), (1, .int (xI z1))]) (k := 2) hx hb dX2_signBackward_26 hl rfl (by decide) rfl (fun ls hl => ?_)
          refine lv_goto (tgt := 11) hx hb dX2_signBackward_29 (by decide) ?_
          exact ih (a + (-1)) (by omega) ((sp_rfind_f (P := (fun q : Int => f q.toNat = z1)) (by omega) c_21).symm.trans hF) (by omega)  ls (lv_sub hl [1, 2, 0] rfl)
        · refine lv_iload_n hx hb dX2_signBackward_24 rfl (lv_at hl 2 rfl) ?_
          exact xr_i hx hb hrt hlocks (by rw [← hF, sp_rfind_t (P := (fun q : Int => f q.toNat = z1)) (by omega) c_21]) dX2_signBackward_25
  exact L11 _ (min z2 ((m : Int) - 1)) (by omega) rfl (Nat.lt_succ_self _)  ls (lv_sub hl [1, 2, 0] rfl)

set_option maxRecDepth 20000 in
theorem c_X2_against (l : Launch) (D : va_G) (cA : Nat → ClassId) (n : Nat) (ad : Nat → Nat) (en : Nat → va_E) {i m : Nat} {f : Nat → Int} (hi : i + 1 < n) (hr : XR cA ad en i m f) {j k : Nat} {h : Nat → Int} (hj : j + 1 < n) (hq : XR cA ad en j k h) : Met l yX2_against (Cond.code yX2_against cX2_against 5 (some .int) :: xU) (xrm 2 42) (va_Pc [.ref (ad i), .ref (ad j)] (xB D cA n ad en)) (vp_Si (fun z => z = xI (sp_ord f h ((m : Int) - (k : Int)) 0 (min (m : Int) (k : Int))))) 0 0 (fun _ => False) := by
  refine xmet (by decide) (Nat.le_of_ble_eq_true rfl) (fun p e s mm args below meth c ls hx hb hrt hml hown hts hlocks hname hB hl => ?_)
  obtain ⟨hP, hK, hN⟩ := hB
  have hl : lv_has ls 5 [(0, .ref (ad i)), (1, .ref (ad j))] := hl
  have hm := hr.2.2.1
  have hm2 := hq.2.2.1
  refine lv_aload_n hx hb dX2_against_0 rfl (lv_at hl 0 rfl) ?_
  refine x_get (T := TX2) (N := 2) hx hb hts uX2 hown hK hP (i := i) (by omega) hr.1 rfl 1 (by decide) u_fl_RX2_15 rfl dX2_against_1 ?_
  refine lv_aload_n hx hb dX2_against_4 rfl (lv_at hl 1 rfl) ?_
  refine x_get (T := TX2) (N := 2) hx hb hts uX2 hown hK hP (i := j) (by omega) hq.1 rfl 1 (by decide) u_fl_RX2_15 rfl dX2_against_5 ?_
  refine x_min hx hb (hml.trans hl.1.symm) hts hown u_ml_RX2_49 (Nat.le_of_ble_eq_true rfl) (Nat.le_of_ble_eq_true rfl) (Nat.le_of_ble_eq_true rfl) (Nat.le_of_ble_eq_true rfl) (r := (min (m : Int) (k : Int))) (by omega) (by omega) dX2_against_8 ?_
  refine lv_istore_n (lv' := [(2, .int (xI (min (m : Int) (k : Int)))), (0, .ref (ad i)), (1, .ref (ad j))]) hx hb dX2_against_11 rfl hl (by decide) rfl (fun ls hl => ?_)
  refine x_iconst hx hb dX2_against_12 ?_
  refine lv_istore_n (lv' := [(3, .int (xI 0)), (2, .int (xI (min (m : Int) (k : Int)))), (0, .ref (ad i)), (1, .ref (ad j))]) hx hb dX2_against_13 rfl hl (by decide) rfl (fun ls hl => ?_)
  have L14 : ∀ (nn : Nat) (a : Int), (0 ≤ a ∧ a ≤ min (m : Int) (k : Int)) → (sp_ord f h ((m : Int) - (k : Int)) a (min (m : Int) (k : Int)) = sp_ord f h ((m : Int) - (k : Int)) 0 (min (m : Int) (k : Int))) → ((min (m : Int) (k : Int) - a).toNat) < nn → ∀ ls : Array Slot, lv_has ls 5 [(0, .ref (ad i)), (1, .ref (ad j)), (2, .int (xI (min (m : Int) (k : Int)))), (3, .int (xI a))] → W p l e (xrm 2 42) s mm args below meth c s.heap [] 0 0 (MQ below (vp_Si (fun z => z = xI (sp_ord f h ((m : Int) - (k : Int)) 0 (min (m : Int) (k : Int))))) args s 0 0 (fun _ => False)) (F0 mm 14 ls []) := by
    intro nn
    induction nn with
    | zero =>
      intro a  ha hF hmm  ls hl
      exact absurd hmm (Nat.not_lt_zero _)
    | succ nn ih =>
      intro a  ha hF hmm  ls hl
      refine lv_iload_n hx hb dX2_against_14 rfl (lv_at hl 3 rfl) ?_
      refine lv_iload_n hx hb dX2_against_15 rfl (lv_at hl 2 rfl) ?_
      refine x_icmp_ge (tgt := 46) hx hb dX2_against_16 (by decide) (by omega) (fun c_16 => ?_) (fun c_16 => ?_)
      · refine lv_aload_n hx hb dX2_against_46 rfl (lv_at hl 0 rfl) ?_
        refine x_get (T := TX2) (N := 2) hx hb hts uX2 hown hK hP (i := i) (by omega) hr.1 rfl 1 (by decide) u_fl_RX2_15 rfl dX2_against_47 ?_
        refine lv_aload_n hx hb dX2_against_50 rfl (lv_at hl 1 rfl) ?_
        refine x_get (T := TX2) (N := 2) hx hb hts uX2 hown hK hP (i := j) (by omega) hq.1 rfl 1 (by decide) u_fl_RX2_15 rfl dX2_against_51 ?_
        refine x_isub hx hb dX2_against_54 ?_
        exact xr_i hx hb hrt hlocks (by rw [← hF, sp_ord_e (by omega)]) dX2_against_55
      · refine lv_aload_n hx hb dX2_against_19 rfl (lv_at hl 0 rfl) ?_
        refine lv_iload_n hx hb dX2_against_20 rfl (lv_at hl 3 rfl) ?_
        refine xv_i (i := i) (As := [.int (xI a)]) (rest := []) ⟨hx, hb, hml, hown, hts⟩ hl.1 (c_X2_signThere l D cA n ad en (by omega) hr a (by omega)) k_X2_signThere u_ml_RX2_23 hK hN hP (by omega) hr.1 rfl rfl rfl rfl (Nat.le_of_ble_eq_true rfl) ⟨Nat.le_of_ble_eq_true rfl, Nat.le_of_ble_eq_true rfl⟩ ⟨Nat.le_of_ble_eq_true rfl, Nat.le_of_ble_eq_true rfl⟩ dX2_against_21 ?_
        refine lv_aload_n hx hb dX2_against_24 rfl (lv_at hl 1 rfl) ?_
        refine lv_iload_n hx hb dX2_against_25 rfl (lv_at hl 3 rfl) ?_
        refine xv_i (i := j) (As := [.int (xI a)]) (rest := [.int (xI (f (Int.toNat a)))]) ⟨hx, hb, hml, hown, hts⟩ hl.1 (c_X2_signThere l D cA n ad en (by omega) hq a (by omega)) k_X2_signThere u_ml_RX2_23 hK hN hP (by omega) hq.1 rfl rfl rfl rfl (Nat.le_of_ble_eq_true rfl) ⟨Nat.le_of_ble_eq_true rfl, Nat.le_of_ble_eq_true rfl⟩ ⟨Nat.le_of_ble_eq_true rfl, Nat.le_of_ble_eq_true rfl⟩ dX2_against_26 ?_
        refine x_isub hx hb dX2_against_29 ?_
        refine lv_istore (lv' := [(4, .int (xI ((f (Int.toNat a)) - (h (Int.toNat a))))), (0, .ref (ad i)), (1, .ref (ad j)), (2, .int (xI (min (m : Int) (k : Int)))), (3, .int (xI a))]) hx hb dX2_against_30 hl (by decide) rfl (fun ls hl => ?_)
        refine lv_iload hx hb dX2_against_32 (lv_at hl 0 rfl) ?_
        refine x_if_eq (tgt := 40) hx hb dX2_against_34 (by decide) (by have := hr.2.2.2 a.toNat (by omega); have := hq.2.2.2 a.toNat (by omega); omega) (fun c_34 => ?_) (fun c_34 => ?_)
        · refine x_iinc (lv' := [(3, .int (xI (a + 1))), (4, .int (xI ((f (Int.toNat a)) - (h (Int.toNat a))))), (0, .ref (ad i)), (1, .ref (ad j)), (2, .int (xI (min (m : Int) (k : Int))))]) (k := 4) hx hb dX2_against_40 hl rfl (by decide) rfl (fun ls hl => ?_)
          refine lv_goto (tgt := 14) hx hb dX2_against_43 (by decide) ?_
          exact ih (a + 1) (by omega) ((sp_ord_t (by omega) (by omega) (by omega)).symm.trans hF) (by omega)  ls (lv_sub hl [2, 3, 4, 0] rfl)
        · refine lv_iload hx hb dX2_against_37 (lv_at hl 0 rfl) ?_
          exact xr_i hx hb hrt hlocks (by rw [← hF, sp_ord_f (by omega) (by omega)]) dX2_against_39
  exact L14 _ 0 (by omega) rfl (Nat.lt_succ_self _)  ls (lv_sub hl [2, 3, 1, 0] rfl)

set_option maxRecDepth 20000 in
theorem c_X2_blanksAhead (l : Launch) (D : va_G) (cA : Nat → ClassId) (n : Nat) (ad : Nat → Nat) (en : Nat → va_E) {i m : Nat} {f : Nat → Int} (hi : i + 1 < n) (hr : XR cA ad en i m f) : Met l yX2_blanksAhead (Cond.code yX2_blanksAhead cX2_blanksAhead 2 (some .int) :: xU) (xrm 2 42) (va_Pc [.ref (ad i)] (xB D cA n ad en)) (vp_Si (fun z => z = xI (sp_while (fun q : Int => f q.toNat ≤ 32) 0 (m : Int)))) 0 0 (fun _ => False) := by
  refine xmet (by decide) (Nat.le_of_ble_eq_true rfl) (fun p e s mm args below meth c ls hx hb hrt hml hown hts hlocks hname hB hl => ?_)
  obtain ⟨hP, hK, hN⟩ := hB
  have hl : lv_has ls 2 [(0, .ref (ad i))] := hl
  have hm := hr.2.2.1
  refine x_iconst hx hb dX2_blanksAhead_0 ?_
  refine lv_istore_n (lv' := [(1, .int (xI 0)), (0, .ref (ad i))]) hx hb dX2_blanksAhead_1 rfl hl (by decide) rfl (fun ls hl => ?_)
  have L2 : ∀ (nn : Nat) (a : Int), (0 ≤ a ∧ a ≤ (m : Int)) → (sp_while (fun q : Int => f q.toNat ≤ 32) a (m : Int) = sp_while (fun q : Int => f q.toNat ≤ 32) 0 (m : Int)) → (((m : Int) - a).toNat) < nn → ∀ ls : Array Slot, lv_has ls 2 [(0, .ref (ad i)), (1, .int (xI a))] → W p l e (xrm 2 42) s mm args below meth c s.heap [] 0 0 (MQ below (vp_Si (fun z => z = xI (sp_while (fun q : Int => f q.toNat ≤ 32) 0 (m : Int)))) args s 0 0 (fun _ => False)) (F0 mm 2 ls []) := by
    intro nn
    induction nn with
    | zero =>
      intro a  ha hF hmm  ls hl
      exact absurd hmm (Nat.not_lt_zero _)
    | succ nn ih =>
      intro a  ha hF hmm  ls hl
      refine lv_iload_n hx hb dX2_blanksAhead_2 rfl (lv_at hl 1 rfl) ?_
      refine lv_aload_n hx hb dX2_blanksAhead_3 rfl (lv_at hl 0 rfl) ?_
      refine x_get (T := TX2) (N := 2) hx hb hts uX2 hown hK hP (i := i) (by omega) hr.1 rfl 1 (by decide) u_fl_RX2_15 rfl dX2_blanksAhead_4 ?_
      refine x_icmp_ge (tgt := 26) hx hb dX2_blanksAhead_7 (by decide) (by omega) (fun c_7 => ?_) (fun c_7 => ?_)
      · refine lv_iload_n hx hb dX2_blanksAhead_26 rfl (lv_at hl 1 rfl) ?_
        exact xr_i hx hb hrt hlocks (by rw [← hF, sp_while_e (by omega)]) dX2_blanksAhead_27
      · refine lv_aload_n hx hb dX2_blanksAhead_10 rfl (lv_at hl 0 rfl) ?_
        refine lv_iload_n hx hb dX2_blanksAhead_11 rfl (lv_at hl 1 rfl) ?_
        refine xv_i (i := i) (As := [.int (xI a)]) (rest := []) ⟨hx, hb, hml, hown, hts⟩ hl.1 (c_X2_signThere l D cA n ad en (by omega) hr a (by omega)) k_X2_signThere u_ml_RX2_23 hK hN hP (by omega) hr.1 rfl rfl rfl rfl (Nat.le_of_ble_eq_true rfl) ⟨Nat.le_of_ble_eq_true rfl, Nat.le_of_ble_eq_true rfl⟩ ⟨Nat.le_of_ble_eq_true rfl, Nat.le_of_ble_eq_true rfl⟩ dX2_blanksAhead_12 ?_
        refine x_bipush hx hb dX2_blanksAhead_15 (by decide +kernel) ?_
        refine x_icmp_gt (tgt := 26) hx hb dX2_blanksAhead_17 (by decide) (by have := hr.2.2.2 a.toNat (by omega); omega) (fun c_17 => ?_) (fun c_17 => ?_)
        · refine lv_iload_n hx hb dX2_blanksAhead_26 rfl (lv_at hl 1 rfl) ?_
          exact xr_i hx hb hrt hlocks (by rw [← hF, sp_while_f (P := (fun q : Int => f q.toNat ≤ 32)) (by omega) (by show ¬ (f a.toNat ≤ 32); omega)]) dX2_blanksAhead_27
        · refine x_iinc (lv' := [(1, .int (xI (a + 1))), (0, .ref (ad i))]) (k := 1) hx hb dX2_blanksAhead_20 hl rfl (by decide) rfl (fun ls hl => ?_)
          refine lv_goto (tgt := 2) hx hb dX2_blanksAhead_23 (by decide) ?_
          exact ih (a + 1) (by omega) ((sp_while_t (P := (fun q : Int => f q.toNat ≤ 32)) (by omega) c_17).symm.trans hF) (by omega)  ls (lv_sub hl [1, 0] rfl)
  exact L2 _ 0 (by omega) rfl (Nat.lt_succ_self _)  ls (lv_sub hl [1, 0] rfl)

set_option maxRecDepth 20000 in
theorem c_X2_endBeforeBlanks (l : Launch) (D : va_G) (cA : Nat → ClassId) (n : Nat) (ad : Nat → Nat) (en : Nat → va_E) {i m : Nat} {f : Nat → Int} (hi : i + 1 < n) (hr : XR cA ad en i m f) (z1 : Int) (hz1 : 0 ≤ z1 ∧ z1 ≤ (m : Int)) : Met l yX2_endBeforeBlanks (Cond.code yX2_endBeforeBlanks cX2_endBeforeBlanks 3 (some .int) :: xU) (xrm 2 42) (va_Pc [.ref (ad i), .int (xI z1)] (xB D cA n ad en)) (vp_Si (fun z => z = xI (sp_back (fun q : Int => f q.toNat ≤ 32) z1 (m : Int)))) 0 0 (fun _ => False) := by
  refine xmet (by decide) (Nat.le_of_ble_eq_true rfl) (fun p e s mm args below meth c ls hx hb hrt hml hown hts hlocks hname hB hl => ?_)
  obtain ⟨hP, hK, hN⟩ := hB
  have hl : lv_has ls 3 [(0, .ref (ad i)), (1, .int (xI z1))] := hl
  have hm := hr.2.2.1
  refine lv_aload_n hx hb dX2_endBeforeBlanks_0 rfl (lv_at hl 0 rfl) ?_
  refine x_get (T := TX2) (N := 2) hx hb hts uX2 hown hK hP (i := i) (by omega) hr.1 rfl 1 (by decide) u_fl_RX2_15 rfl dX2_endBeforeBlanks_1 ?_
  refine lv_istore_n (lv' := [(2, .int (xI (m : Int))), (0, .ref (ad i)), (1, .int (xI z1))]) hx hb dX2_endBeforeBlanks_4 rfl hl (by decide) rfl (fun ls hl => ?_)
  have L5 : ∀ (nn : Nat) (a : Int), (z1 ≤ a ∧ a ≤ (m : Int)) → (sp_back (fun q : Int => f q.toNat ≤ 32) z1 a = sp_back (fun q : Int => f q.toNat ≤ 32) z1 (m : Int)) → (a.toNat) < nn → ∀ ls : Array Slot, lv_has ls 3 [(0, .ref (ad i)), (1, .int (xI z1)), (2, .int (xI a))] → W p l e (xrm 2 42) s mm args below meth c s.heap [] 0 0 (MQ below (vp_Si (fun z => z = xI (sp_back (fun q : Int => f q.toNat ≤ 32) z1 (m : Int)))) args s 0 0 (fun _ => False)) (F0 mm 5 ls []) := by
    intro nn
    induction nn with
    | zero =>
      intro a  ha hF hmm  ls hl
      exact absurd hmm (Nat.not_lt_zero _)
    | succ nn ih =>
      intro a  ha hF hmm  ls hl
      refine lv_iload_n hx hb dX2_endBeforeBlanks_5 rfl (lv_at hl 2 rfl) ?_
      refine lv_iload_n hx hb dX2_endBeforeBlanks_6 rfl (lv_at hl 1 rfl) ?_
      refine x_icmp_le (tgt := 28) hx hb dX2_endBeforeBlanks_7 (by decide) (by omega) (fun c_7 => ?_) (fun c_7 => ?_)
      · refine lv_iload_n hx hb dX2_endBeforeBlanks_28 rfl (lv_at hl 2 rfl) ?_
        exact xr_i hx hb hrt hlocks (by rw [← hF, sp_back_e (by omega)]; exact congrArg xI (by omega)) dX2_endBeforeBlanks_29
      · refine lv_aload_n hx hb dX2_endBeforeBlanks_10 rfl (lv_at hl 0 rfl) ?_
        refine lv_iload_n hx hb dX2_endBeforeBlanks_11 rfl (lv_at hl 2 rfl) ?_
        refine x_iconst hx hb dX2_endBeforeBlanks_12 ?_
        refine x_isub hx hb dX2_endBeforeBlanks_13 ?_
        refine xv_i (i := i) (As := [.int (xI (a - 1))]) (rest := []) ⟨hx, hb, hml, hown, hts⟩ hl.1 (c_X2_signThere l D cA n ad en (by omega) hr (a - 1) (by omega)) k_X2_signThere u_ml_RX2_23 hK hN hP (by omega) hr.1 rfl rfl rfl rfl (Nat.le_of_ble_eq_true rfl) ⟨Nat.le_of_ble_eq_true rfl, Nat.le_of_ble_eq_true rfl⟩ ⟨Nat.le_of_ble_eq_true rfl, Nat.le_of_ble_eq_true rfl⟩ dX2_endBeforeBlanks_14 ?_
        refine x_bipush hx hb dX2_endBeforeBlanks_17 (by decide +kernel) ?_
        refine x_icmp_gt (tgt := 28) hx hb dX2_endBeforeBlanks_19 (by decide) (by have := hr.2.2.2 (Int.toNat (a - 1)) (by omega); omega) (fun c_19 => ?_) (fun c_19 => ?_)
        · refine lv_iload_n hx hb dX2_endBeforeBlanks_28 rfl (lv_at hl 2 rfl) ?_
          exact xr_i hx hb hrt hlocks (by rw [← hF, sp_back_f (P := (fun q : Int => f q.toNat ≤ 32)) (by omega) (by show ¬ (f (Int.toNat (a - 1)) ≤ 32); omega)]) dX2_endBeforeBlanks_29
        · refine x_iinc (lv' := [(2, .int (xI (a + (-1)))), (0, .ref (ad i)), (1, .int (xI z1))]) (k := 2) hx hb dX2_endBeforeBlanks_22 hl rfl (by decide) rfl (fun ls hl => ?_)
          refine lv_goto (tgt := 5) hx hb dX2_endBeforeBlanks_25 (by decide) ?_
          exact ih (a + (-1)) (by omega) ((sp_back_t (P := (fun q : Int => f q.toNat ≤ 32)) (by omega) (by show f (Int.toNat (a - 1)) ≤ 32; omega)).symm.trans hF) (by omega)  ls (lv_sub hl [1, 2, 0] rfl)
  exact L5 _ (m : Int) (by omega) rfl (Nat.lt_succ_self _)  ls (lv_sub hl [1, 2, 0] rfl)
