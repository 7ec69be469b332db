/-! rows of signs: what becomes of them -/
section XRL
variable {cA : Nat → ClassId} {ad : Nat → Nat} {en : Nat → va_E} {i m : Nat} {f : Nat → Int}
theorem XR.wr (h : XR cA ad en i m f) {g : Nat → Int32} (hg : en (i + 1) = .inl (cA 0, 200, .inl g)) {z : Nat} {v : Int} (hz : z < m) (hv : 0 ≤ v ∧ v ≤ 255) : XR cA ad (va_up en (i + 1) (.inl (cA 0, 200, .inl (upd g z (xI v))))) i m (sp_up f z v) := by
  obtain ⟨a1, ⟨g', a2, a3⟩, a4, a5⟩ := h
  have e : g' = g := by
    have := a2.symm.trans hg
    simpa using this
  subst e
  refine ⟨by rw [va_up_ne _ _ (by omega)]; exact a1, ⟨_, va_up_self _ _ _, fun k hk => ?_⟩, a4, fun k hk => ?_⟩
  · by_cases q : k = z
    · subst q; simp [upd, sp_up_s]
    · rw [sp_up_n _ _ q]; simp only [upd, if_neg q]; exact a3 k hk
  · by_cases q : k = z
    · subst q; rw [sp_up_s]; exact hv
    · rw [sp_up_n _ _ q]; exact a5 k hk
theorem XR.sz (h : XR cA ad en i m f) {z : Int} {m' : Nat} (hz : z = (m' : Int)) (hm : m' ≤ m) : XR cA ad (va_up en i (.inr (2, [.ref (ad (i + 1)), .int (xI z)]))) i m' f := by
  obtain ⟨a1, ⟨g, a2, a3⟩, a4, a5⟩ := h
  subst hz
  exact ⟨va_up_self _ _ _, ⟨g, by rw [va_up_ne _ _ (by omega)]; exact a2, fun k hk => a3 k (by omega)⟩, by omega, fun k hk => a5 k (by omega)⟩
theorem XR.mk (g : Nat → Int32) {en' : Nat → va_E} {z : Int} {m' : Nat} {f' : Nat → Int} (h1 : en' i = .inr (2, [.ref (ad (i + 1)), .int (xI z)])) (hz : z = (m' : Int)) (h2 : en' (i + 1) = .inl (cA 0, 200, .inl g)) (h3 : ∀ k : Nat, k < m' → g k = xI (f' k)) (h4 : m' ≤ 200) (h5 : ∀ k : Nat, k < m' → 0 ≤ f' k ∧ f' k ≤ 255) : XR cA ad en' i m' f' := by
  subst hz
  exact ⟨h1, ⟨g, h2, h3⟩, h4, h5⟩
end XRL

set_option maxRecDepth 20000 in
theorem c_X2_holds (l : Launch) (D : va_G) (cA : Nat → ClassId) (n : Nat) (ad : Nat → Nat) (en : Nat → va_E) {i m : Nat} {f : Nat → Int} (hi : i + 1 < n) (hr : XR cA ad en i m f) (z1 : Int) (hz1 : -2147483648 ≤ z1 ∧ z1 ≤ 2147483647) : Met l yX2_holds (Cond.code yX2_holds cX2_holds 2 (some .boolean) :: xU) (xrm 0 0) (va_Pc [.ref (ad i), .int (xI z1)] (xB D cA n ad en)) (vp_Si (fun z => z = xb (0 ≤ z1 ∧ z1 < (m : Int)))) 0 0 (fun _ => False) := by
  refine xmet (by decide) (Nat.le_of_ble_eq_true rfl) (fun p e s mm args below meth c ls hx hb hrt hml hown hts hlocks hname hB hl => ?_)
  obtain ⟨hP, hK, hN⟩ := hB
  have hl : lv_has ls 2 [(0, .ref (ad i)), (1, .int (xI z1))] := hl
  have hm := hr.2.2.1
  refine lv_iload_n hx hb dX2_holds_0 rfl (lv_at hl 1 rfl) ?_
  refine x_if_lt (tgt := 16) hx hb dX2_holds_1 (by decide) (by omega) (fun c_1 => ?_) (fun c_1 => ?_)
  · refine x_iconst hx hb dX2_holds_16 ?_
    exact xr_z hx hb hrt hlocks (xb_0 (by omega)) dX2_holds_17
  · refine lv_iload_n hx hb dX2_holds_4 rfl (lv_at hl 1 rfl) ?_
    refine lv_aload_n hx hb dX2_holds_5 rfl (lv_at hl 0 rfl) ?_
    refine x_get (T := TX2) (N := 2) hx hb hts uX2 hown hK hP (i := i) (by omega) hr.1 rfl 1 (by decide) u_fl_RX2_15 rfl dX2_holds_6 ?_
    refine x_icmp_ge (tgt := 16) hx hb dX2_holds_9 (by decide) (by omega) (fun c_9 => ?_) (fun c_9 => ?_)
    · refine x_iconst hx hb dX2_holds_16 ?_
      exact xr_z hx hb hrt hlocks (xb_0 (by omega)) dX2_holds_17
    · refine x_iconst hx hb dX2_holds_12 ?_
      refine lv_goto (tgt := 17) hx hb dX2_holds_13 (by decide) ?_
      exact xr_z hx hb hrt hlocks (xb_1 (by omega)) dX2_holds_17

set_option maxRecDepth 20000 in
theorem c_X2_spans (l : Launch) (D : va_G) (cA : Nat → ClassId) (n : Nat) (ad : Nat → Nat) (en : Nat → va_E) {i m : Nat} {f : Nat → Int} (hi : i + 1 < n) (hr : XR cA ad en i m f) (z1 z2 : Int) (hz1 : -2147483648 ≤ z1 ∧ z1 ≤ 2147483647) (hz2 : -2147483648 ≤ z2 ∧ z2 ≤ 2147483647) : Met l yX2_spans (Cond.code yX2_spans cX2_spans 3 (some .boolean) :: xU) (xrm 0 0) (va_Pc [.ref (ad i), .int (xI z1), .int (xI z2)] (xB D cA n ad en)) (vp_Si (fun z => z = xb (0 ≤ z1 ∧ z1 ≤ z2 ∧ z2 ≤ (m : Int)))) 0 0 (fun _ => False) := by
  refine xmet (by decide) (Nat.le_of_ble_eq_true rfl) (fun p e s mm args below meth c ls hx hb hrt hml hown hts hlocks hname hB hl => ?_)
  obtain ⟨hP, hK, hN⟩ := hB
  have hl : lv_has ls 3 [(0, .ref (ad i)), (1, .int (xI z1)), (2, .int (xI z2))] := hl
  have hm := hr.2.2.1
  refine lv_iload_n hx hb dX2_spans_0 rfl (lv_at hl 1 rfl) ?_
  refine x_if_lt (tgt := 21) hx hb dX2_spans_1 (by decide) (by omega) (fun c_1 => ?_) (fun c_1 => ?_)
  · refine x_iconst hx hb dX2_spans_21 ?_
    exact xr_z hx hb hrt hlocks (xb_0 (by omega)) dX2_spans_22
  · refine lv_iload_n hx hb dX2_spans_4 rfl (lv_at hl 1 rfl) ?_
    refine lv_iload_n hx hb dX2_spans_5 rfl (lv_at hl 2 rfl) ?_
    refine x_icmp_gt (tgt := 21) hx hb dX2_spans_6 (by decide) (by omega) (fun c_6 => ?_) (fun c_6 => ?_)
    · refine x_iconst hx hb dX2_spans_21 ?_
      exact xr_z hx hb hrt hlocks (xb_0 (by omega)) dX2_spans_22
    · refine lv_iload_n hx hb dX2_spans_9 rfl (lv_at hl 2 rfl) ?_
      refine lv_aload_n hx hb dX2_spans_10 rfl (lv_at hl 0 rfl) ?_
      refine x_get (T := TX2) (N := 2) hx hb hts uX2 hown hK hP (i := i) (by omega) hr.1 rfl 1 (by decide) u_fl_RX2_15 rfl dX2_spans_11 ?_
      refine x_icmp_gt (tgt := 21) hx hb dX2_spans_14 (by decide) (by omega) (fun c_14 => ?_) (fun c_14 => ?_)
      · refine x_iconst hx hb dX2_spans_21 ?_
        exact xr_z hx hb hrt hlocks (xb_0 (by omega)) dX2_spans_22
      · refine x_iconst hx hb dX2_spans_17 ?_
        refine lv_goto (tgt := 22) hx hb dX2_spans_18 (by decide) ?_
        exact xr_z hx hb hrt hlocks (xb_1 (by omega)) dX2_spans_22

set_option maxRecDepth 20000 in
theorem c_X2_signThere (l : Launch) (D : va_G) (cA : Nat → ClassId) (n : Nat) (ad : Nat → Nat) (en : Nat → va_E) {i m : Nat} {f : Nat → Int} (hi : i + 1 < n) (hr : XR cA ad en i m f) (z1 : Int) (h1 : 0 ≤ z1 ∧ z1 < (m : Int)) : Met l yX2_signThere (Cond.code yX2_signThere cX2_signThere 2 (some .int) :: xU) (xrm 1 21) (va_Pc [.ref (ad i), .int (xI z1)] (xB D cA n ad en)) (vp_Si (fun z => z = xI (f z1.toNat))) 0 0 (fun _ => False) := by
  refine xmet (by decide) (Nat.le_of_ble_eq_true rfl) (fun p e s mm args below meth c ls hx hb hrt hml hown hts hlocks hname hB hl => ?_)
  obtain ⟨hP, hK, hN⟩ := hB
  have hl : lv_has ls 2 [(0, .ref (ad i)), (1, .int (xI z1))] := hl
  have hm := hr.2.2.1
  refine lv_aload_n hx hb dX2_signThere_0 rfl (lv_at hl 0 rfl) ?_
  refine lv_iload_n hx hb dX2_signThere_1 rfl (lv_at hl 1 rfl) ?_
  refine xv_i (i := i) (As := [.int (xI z1)]) (rest := []) ⟨hx, hb, hml, hown, hts⟩ hl.1 (c_X2_holds l D cA n ad en (by omega) hr z1 (by omega)) k_X2_holds u_ml_RX2_19 hK hN hP (by omega) hr.1 rfl rfl rfl rfl (Nat.le_of_ble_eq_true rfl) ⟨Nat.le_of_ble_eq_true rfl, Nat.le_of_ble_eq_true rfl⟩ ⟨Nat.le_of_ble_eq_true rfl, Nat.le_of_ble_eq_true rfl⟩ dX2_signThere_2 ?_
  refine x_ifb_eq (tgt := 17) hx hb dX2_signThere_5 (by decide)  (fun c_5 => absurd h1 c_5) (fun c_5 => ?_)
  refine lv_aload_n hx hb dX2_signThere_8 rfl (lv_at hl 0 rfl) ?_
  refine x_get (T := TX2) (N := 2) hx hb hts uX2 hown hK hP (i := i) (by omega) hr.1 rfl 0 (by decide) u_fl_RX2_9 rfl dX2_signThere_9 ?_
  refine lv_iload_n hx hb dX2_signThere_12 rfl (lv_at hl 1 rfl) ?_
  refine x_rld hx hb hK hP (i := i) (by omega) hr (by omega) dX2_signThere_13 ?_
  refine lv_goto (tgt := 18) hx hb dX2_signThere_14 (by decide) ?_
  exact xr_i hx hb hrt hlocks (rfl) dX2_signThere_18

set_option maxRecDepth 20000 in
theorem c_X2_write (l : Launch) (D : va_G) (cA : Nat → ClassId) (n : Nat) (ad : Nat → Nat) (en : Nat → va_E) (sz : Nat) {i m : Nat} {f : Nat → Int} (hi : i + 1 < n) (hr : XR cA ad en i m f) (z1 z2 : Int) (h1 : 0 ≤ z1 ∧ z1 < (m : Int)) (hz2 : 0 ≤ z2 ∧ z2 ≤ 255) : Met l yX2_write (Cond.code yX2_write cX2_write 3 none :: xU) (xrm 1 21) (va_Pc [.ref (ad i), .int (xI z1), .int (xI z2)] (xM D cA n ad en sz)) (va_Qv (fun u => XR cA ad u i m (sp_up f z1.toNat z2) ∧ xO i (i + 2) en u) (xE D n ad) (xA n ad sz)) 0 0 (xA n ad sz) := by
  refine xmet (by decide) (Nat.le_of_ble_eq_true rfl) (fun p e s mm args below meth c ls hx hb hrt hml hown hts hlocks hname hB hl => ?_)
  obtain ⟨⟨hP, hK, hN⟩, hsz, hDt⟩ := hB
  have hD : xD (xA n ad sz) n ad := xD_self hDt sz
  have hA : ∀ q : Nat, s.heap.size ≤ q → xA n ad sz q := fun q h => Or.inr (by rw [← hsz]; exact h)
  have hS : va_S (xA n ad sz) s.heap s.heap [] := va_S.rf
  have hown : s.vm.findClass RX2 = some mm.cls := hown
  have hl : lv_has ls 3 [(0, .ref (ad i)), (1, .int (xI z1)), (2, .int (xI z2))] := hl
  have hm := hr.2.2.1
  obtain ⟨g, hg1, hg2⟩ := hr.2.1
  refine lv_aload_n hx hb dX2_write_0 rfl (lv_at hl 0 rfl) ?_
  refine lv_iload_n hx hb dX2_write_1 rfl (lv_at hl 1 rfl) ?_
  refine xv_i (i := i) (As := [.int (xI z1)]) (rest := []) ⟨hx, hb, hml, hown, hts⟩ hl.1 (c_X2_holds l D cA n ad en (by omega) hr z1 (by omega)) k_X2_holds u_ml_RX2_19 hK hN hP (by omega) hr.1 rfl rfl rfl rfl (Nat.le_of_ble_eq_true rfl) ⟨Nat.le_of_ble_eq_true rfl, Nat.le_of_ble_eq_true rfl⟩ ⟨Nat.le_of_ble_eq_true rfl, Nat.le_of_ble_eq_true rfl⟩ dX2_write_2 ?_
  refine x_ifb_eq (tgt := 15) hx hb dX2_write_5 (by decide)  (fun c_5 => absurd h1 c_5) (fun c_5 => ?_)
  refine lv_aload_n hx hb dX2_write_8 rfl (lv_at hl 0 rfl) ?_
  refine x_get (T := TX2) (N := 2) hx hb hts uX2 hown hK hP (i := i) (by omega) hr.1 rfl 0 (by decide) u_fl_RX2_9 rfl dX2_write_9 ?_
  refine lv_iload_n hx hb dX2_write_12 rfl (lv_at hl 1 rfl) ?_
  refine lv_iload_n hx hb dX2_write_13 rfl (lv_at hl 2 rfl) ?_
  refine x_ist hx hb hK hP hD hS (i := i + 1) (by omega) hg1 (by omega) dX2_write_14 (fun H locs hP hS => ?_)
  have hP : va_P D vwCl (xw n ad (va_up en (i + 1) (.inl (cA 0, 200, .inl (upd g (Int.toNat z1) (xI z2)))))) H := hP
  obtain ⟨en1, he1⟩ : ∃ z, z = va_up en (i + 1) (.inl (cA 0, 200, .inl (upd g (Int.toNat z1) (xI z2)))) := ⟨_, rfl⟩
  rw [← he1] at hP
  have ho1 : en1 (i + 1) = (.inl (cA 0, 200, .inl (upd g (Int.toNat z1) (xI z2)))) := by rw [he1, va_up_self]
  have hk2 := (show en1 i = en i from by rw [he1, va_up_ne _ _ (by omega)]).trans hr.1
  subst he1
  exact xe_v hx hb hrt hlocks hP hS (⟨hr.wr hg1 (by omega) hz2, xO.rf.up (by omega) (by omega)⟩) dX2_write_15

set_option maxRecDepth 20000 in
theorem c_X2_writeEach (l : Launch) (D : va_G) (cA : Nat → ClassId) (n : Nat) (ad : Nat → Nat) (en : Nat → va_E) (sz : Nat) {i m : Nat} {f : Nat → Int} (hi : i + 1 < n) (hr : XR cA ad en i m f) (z1 z2 : Int) (hz1 : -2147483648 ≤ z1 ∧ z1 ≤ 2147483647) (hz2 : 0 ≤ z2 ∧ z2 ≤ 255) : Met l yX2_writeEach (Cond.code yX2_writeEach cX2_writeEach 4 none :: xU) (xrm 2 43) (va_Pc [.ref (ad i), .int (xI z1), .int (xI z2)] (xM D cA n ad en sz)) (va_Qv (fun u => XR cA ad u i m (fun t => if f t = z1 then z2 else f t) ∧ xO i (i + 2) en u) (xE D n ad) (xA n ad sz)) 0 0 (xA n ad sz) := by
  refine xmet (by decide) (Nat.le_of_ble_eq_true rfl) (fun p e s mm args below meth c ls hx hb hrt hml hown hts hlocks hname hB hl => ?_)
  obtain ⟨⟨hP, hK, hN⟩, hsz, hDt⟩ := hB
  have hD : xD (xA n ad sz) n ad := xD_self hDt sz
  have hA : ∀ q : Nat, s.heap.size ≤ q → xA n ad sz q := fun q h => Or.inr (by rw [← hsz]; exact h)
  have hS : va_S (xA n ad sz) s.heap s.heap [] := va_S.rf
  have hown : s.vm.findClass RX2 = some mm.cls := hown
  have hl : lv_has ls 4 [(0, .ref (ad i)), (1, .int (xI z1)), (2, .int (xI z2))] := hl
  have hm := hr.2.2.1
  refine x_iconst hx hb dX2_writeEach_0 ?_
  refine lv_istore_n (lv' := [(3, .int (xI 0)), (0, .ref (ad i)), (1, .int (xI z1)), (2, .int (xI z2))]) hx hb dX2_writeEach_1 rfl hl (by decide) rfl (fun ls hl => ?_)
  have L2 : ∀ (nn : Nat) (k : Int) (F : Nat → Int) (ew2 : Nat → va_E) (H : Heap) (locs : List Loc), (0 ≤ k ∧ k ≤ (m : Int)) → (∀ t : Nat, t < m → F t = if (t : Int) < k ∧ f t = z1 then z2 else f t) → (((m : Int) - k).toNat) < nn → (XR cA ad ew2 i m F) → (xO i (i + 2) en ew2) → va_P D vwCl (xw n ad ew2) H → va_S (xA n ad sz) s.heap H locs → ∀ ls : Array Slot, lv_has ls 4 [(0, .ref (ad i)), (1, .int (xI z1)), (2, .int (xI z2)), (3, .int (xI k))] → W p l e (xrm 2 43) s mm args below meth c H locs 0 0 (MQ below (va_Qv (fun u => XR cA ad u i m (fun t => if f t = z1 then z2 else f t) ∧ xO i (i + 2) en u) (xE D n ad) (xA n ad sz)) args s 0 0 (xA n ad sz)) (F0 mm 2 ls []) := by
    intro nn
    induction nn with
    | zero =>
      intro k F ew2 H locs hk hF hmm hr ho hP hS ls hl
      exact absurd hmm (Nat.not_lt_zero _)
    | succ nn ih =>
      intro k F ew2 H locs hk hF hmm hr ho hP hS ls hl
      refine lv_iload_n hx hb dX2_writeEach_2 rfl (lv_at hl 3 rfl) ?_
      refine lv_aload_n hx hb dX2_writeEach_3 rfl (lv_at hl 0 rfl) ?_
      refine x_get (T := TX2) (N := 2) hx hb hts uX2 hown hK hP (i := i) (by omega) hr.1 rfl 1 (by decide) u_fl_RX2_15 rfl dX2_writeEach_4 ?_
      refine x_icmp_ge (tgt := 31) hx hb dX2_writeEach_7 (by decide) (by omega) (fun c_7 => ?_) (fun c_7 => ?_)
      · exact xe_v hx hb hrt hlocks hP hS (⟨hr.to rfl (fun t ht => by have h1 := hF t ht; simp only [h1]; omega), ho⟩) dX2_writeEach_31
      · refine lv_aload_n hx hb dX2_writeEach_10 rfl (lv_at hl 0 rfl) ?_
        refine lv_iload_n hx hb dX2_writeEach_11 rfl (lv_at hl 3 rfl) ?_
        refine xv_i (i := i) (As := [.int (xI k)]) (rest := []) ⟨hx, hb, hml, hown, hts⟩ hl.1 (c_X2_signThere l D cA n ad ew2 (by omega) hr k (by omega)) k_X2_signThere u_ml_RX2_23 hK hN hP (by omega) hr.1 rfl rfl rfl rfl (Nat.le_of_ble_eq_true rfl) ⟨Nat.le_of_ble_eq_true rfl, Nat.le_of_ble_eq_true rfl⟩ ⟨Nat.le_of_ble_eq_true rfl, Nat.le_of_ble_eq_true rfl⟩ dX2_writeEach_12 ?_
        refine lv_iload_n hx hb dX2_writeEach_15 rfl (lv_at hl 1 rfl) ?_
        refine x_icmp_ne (tgt := 25) hx hb dX2_writeEach_16 (by decide) (by have := hr.2.2.2 k.toNat (by omega); omega) (fun c_16 => ?_) (fun c_16 => ?_)
        · refine x_iinc (lv' := [(3, .int (xI (k + 1))), (0, .ref (ad i)), (1, .int (xI z1)), (2, .int (xI z2))]) (k := 3) hx hb dX2_writeEach_25 hl rfl (by decide) rfl (fun ls hl => ?_)
          refine lv_goto (tgt := 2) hx hb dX2_writeEach_28 (by decide) ?_
          exact ih (k + 1) _ ew2 _ _ (by omega) (fun t ht => by
        have h1 := hF t ht
        have h2 := hF k.toNat (by omega)
        by_cases e : t = k.toNat
        · subst e
          rw [if_neg (by omega)] at h2
          (try rw [sp_up_s])
          split <;> omega
        · (try rw [sp_up_n _ _ e])
          rw [h1]
          split <;> split <;> omega) (by omega) hr ho hP hS ls (lv_sub hl [1, 2, 3, 0] rfl)
        · refine lv_aload_n hx hb dX2_writeEach_19 rfl (lv_at hl 0 rfl) ?_
          refine lv_iload_n hx hb dX2_writeEach_20 rfl (lv_at hl 3 rfl) ?_
          refine lv_iload_n hx hb dX2_writeEach_21 rfl (lv_at hl 2 rfl) ?_
          refine xm_v (i := i) (As := [.int (xI k), .int (xI z2)]) (rest := []) ⟨hx, hb, hml, hown, hts⟩ hl.1 (c_X2_write l D cA n ad ew2 _ (by omega) hr k z2 (by omega) (by omega)) k_X2_write u_ml_RX2_27 hK hN hP (by omega) hr.1 rfl rfl rfl rfl (Nat.le_of_ble_eq_true rfl) ⟨Nat.le_of_ble_eq_true rfl, Nat.le_of_ble_eq_true rfl⟩ ⟨Nat.le_of_ble_eq_true rfl, Nat.le_of_ble_eq_true rfl⟩ dX2_writeEach_22 hD hS hA (fun en1 H locs hp1 hP hS => ?_)
          obtain ⟨hr, hp1w⟩ := hp1
          have ho := ho.tr hp1w
          refine x_iinc (lv' := [(3, .int (xI (k + 1))), (0, .ref (ad i)), (1, .int (xI z1)), (2, .int (xI z2))]) (k := 3) hx hb dX2_writeEach_25 hl rfl (by decide) rfl (fun ls hl => ?_)
          refine lv_goto (tgt := 2) hx hb dX2_writeEach_28 (by decide) ?_
          exact ih (k + 1) _ en1 _ _ (by omega) (fun t ht => by
        have h1 := hF t ht
        have h2 := hF k.toNat (by omega)
        by_cases e : t = k.toNat
        · subst e
          rw [if_neg (by omega)] at h2
          (try rw [sp_up_s])
          split <;> omega
        · (try rw [sp_up_n _ _ e])
          rw [h1]
          split <;> split <;> omega) (by omega) hr ho hP hS ls (lv_sub hl [1, 2, 3, 0] rfl)
  exact L2 _ 0 f en _ _ (by omega) (fun t _ => by rw [if_neg (by omega)]) (Nat.lt_succ_self _) hr xO.rf hP hS ls (lv_sub hl [1, 2, 3, 0] rfl)

set_option maxRecDepth 20000 in
theorem c_X2_clear (l : Launch) (D : va_G) (cA : Nat → ClassId) (n : Nat) (ad : Nat → Nat) (en : Nat → va_E) (sz : Nat) {i m : Nat} {f : Nat → Int} (hi : i + 1 < n) (hr : XR cA ad en i m f) : Met l yX2_clear (Cond.code yX2_clear cX2_clear 1 none :: xU) (xrm 0 0) (va_Pc [.ref (ad i)] (xM D cA n ad en sz)) (va_Qv (fun u => XR cA ad u i 0 f ∧ xO i (i + 2) en u) (xE D n ad) (xA n ad sz)) 0 0 (xA n ad sz) := by
  refine xmet (by decide) (Nat.le_of_ble_eq_true rfl) (fun p e s mm args below meth c ls hx hb hrt hml hown hts hlocks hname hB hl => ?_)
  obtain ⟨⟨hP, hK, hN⟩, hsz, hDt⟩ := hB
  have hD : xD (xA n ad sz) n ad := xD_self hDt sz
  have hA : ∀ q : Nat, s.heap.size ≤ q → xA n ad sz q := fun q h => Or.inr (by rw [← hsz]; exact h)
  have hS : va_S (xA n ad sz) s.heap s.heap [] := va_S.rf
  have hown : s.vm.findClass RX2 = some mm.cls := hown
  have hl : lv_has ls 1 [(0, .ref (ad i))] := hl
  have hm := hr.2.2.1
  refine lv_aload_n hx hb dX2_clear_0 rfl (lv_at hl 0 rfl) ?_
  refine x_iconst hx hb dX2_clear_1 ?_
  refine x_put (T := TX2) (N := 2) (ty := .int) hx hb hts uX2 tyX2 tyX2_ok nmX2 hown hK hP hD hS (i := i) (by omega) hr.1 rfl 1 (by decide) u_fl_RX2_15 rfl (by decide +kernel) rfl rfl (by show 1 < 2; decide) dX2_clear_2 (fun H locs hP hS => ?_)
  have hP : va_P D vwCl (xw n ad (va_up en i (.inr (2, [.ref (ad (i + 1)), .int (xI 0)])))) H := hP
  obtain ⟨en1, he1⟩ : ∃ z, z = va_up en i (.inr (2, [.ref (ad (i + 1)), .int (xI 0)])) := ⟨_, rfl⟩
  rw [← he1] at hP
  have ho1 : en1 i = (.inr (2, [.ref (ad (i + 1)), .int (xI 0)])) := by rw [he1, va_up_self]
  subst he1
  exact xe_v hx hb hrt hlocks hP hS (⟨hr.sz rfl (by omega), xO.rf.up (by omega) (by omega)⟩) dX2_clear_5

set_option maxRecDepth 20000 in
theorem c_X2_add (l : Launch) (D : va_G) (cA : Nat → ClassId) (n : Nat) (ad : Nat → Nat) (en : Nat → va_E) (sz : Nat) {i m : Nat} {f : Nat → Int} (hi : i + 1 < n) (hr : XR cA ad en i m f) (hlt : m < 200) (z1 : Int) (hz1 : 0 ≤ z1 ∧ z1 ≤ 255) : Met l yX2_add (Cond.code yX2_add cX2_add 2 none :: xU) (xrm 0 0) (va_Pc [.ref (ad i), .int (xI z1)] (xM D cA n ad en sz)) (va_Qv (fun u => XR cA ad u i (m + 1) (sp_up f m z1) ∧ xO i (i + 2) en u) (xE D n ad) (xA n ad sz)) 0 0 (xA n ad sz) := by
  refine xmet (by decide) (Nat.le_of_ble_eq_true rfl) (fun p e s mm args below meth c ls hx hb hrt hml hown hts hlocks hname hB hl => ?_)
  obtain ⟨⟨hP, hK, hN⟩, hsz, hDt⟩ := hB
  have hD : xD (xA n ad sz) n ad := xD_self hDt sz
  have hA : ∀ q : Nat, s.heap.size ≤ q → xA n ad sz q := fun q h => Or.inr (by rw [← hsz]; exact h)
  have hS : va_S (xA n ad sz) s.heap s.heap [] := va_S.rf
  have hown : s.vm.findClass RX2 = some mm.cls := hown
  have hl : lv_has ls 2 [(0, .ref (ad i)), (1, .int (xI z1))] := hl
  have hm := hr.2.2.1
  obtain ⟨g, hg1, hg2⟩ := hr.2.1
  refine lv_aload_n hx hb dX2_add_0 rfl (lv_at hl 0 rfl) ?_
  refine x_get (T := TX2) (N := 2) hx hb hts uX2 hown hK hP (i := i) (by omega) hr.1 rfl 1 (by decide) u_fl_RX2_15 rfl dX2_add_1 ?_
  refine lv_aload_n hx hb dX2_add_4 rfl (lv_at hl 0 rfl) ?_
  refine x_get (T := TX2) (N := 2) hx hb hts uX2 hown hK hP (i := i) (by omega) hr.1 rfl 0 (by decide) u_fl_RX2_9 rfl dX2_add_5 ?_
  refine x_alen hx hb hK hP (i := i + 1) (by omega) 0 hg1 rfl dX2_add_8 ?_
  refine x_icmp_ge (tgt := 32) hx hb dX2_add_9 (by decide) (by omega) (fun c_9 => absurd c_9 (by omega)) (fun c_9 => ?_)
  refine lv_aload_n hx hb dX2_add_12 rfl (lv_at hl 0 rfl) ?_
  refine x_get (T := TX2) (N := 2) hx hb hts uX2 hown hK hP (i := i) (by omega) hr.1 rfl 0 (by decide) u_fl_RX2_9 rfl dX2_add_13 ?_
  refine lv_aload_n hx hb dX2_add_16 rfl (lv_at hl 0 rfl) ?_
  refine x_get (T := TX2) (N := 2) hx hb hts uX2 hown hK hP (i := i) (by omega) hr.1 rfl 1 (by decide) u_fl_RX2_15 rfl dX2_add_17 ?_
  refine lv_iload_n hx hb dX2_add_20 rfl (lv_at hl 1 rfl) ?_
  refine x_ist hx hb hK hP hD hS (i := i + 1) (by omega) hg1 (by omega) dX2_add_21 (fun H locs hP hS => ?_)
  have hP : va_P D vwCl (xw n ad (va_up en (i + 1) (.inl (cA 0, 200, .inl (upd g (Int.toNat (m : Int)) (xI z1)))))) H := hP
  obtain ⟨en1, he1⟩ : ∃ z, z = va_up en (i + 1) (.inl (cA 0, 200, .inl (upd g (Int.toNat (m : Int)) (xI z1)))) := ⟨_, rfl⟩
  rw [← he1] at hP
  have ho1 : en1 (i + 1) = (.inl (cA 0, 200, .inl (upd g (Int.toNat (m : Int)) (xI z1)))) := by rw [he1, va_up_self]
  have hk2 := (show en1 i = en i from by rw [he1, va_up_ne _ _ (by omega)]).trans hr.1
  refine lv_aload_n hx hb dX2_add_22 rfl (lv_at hl 0 rfl) ?_
  refine lv_dup hx hb dX2_add_23 rfl ?_
  refine x_get (T := TX2) (N := 2) hx hb hts uX2 hown hK hP (i := i) (by omega) hk2 rfl 1 (by decide) u_fl_RX2_15 rfl dX2_add_24 ?_
  refine x_iconst hx hb dX2_add_27 ?_
  refine x_iadd hx hb dX2_add_28 ?_
  refine x_put (T := TX2) (N := 2) (ty := .int) hx hb hts uX2 tyX2 tyX2_ok nmX2 hown hK hP hD hS (i := i) (by omega) hk2 rfl 1 (by decide) u_fl_RX2_15 rfl (by decide +kernel) rfl rfl (by show 1 < 2; decide) dX2_add_29 (fun H locs hP hS => ?_)
  have hP : va_P D vwCl (xw n ad (va_up en1 i (.inr (2, [.ref (ad (i + 1)), .int (xI ((m : Int) + 1))])))) H := hP
  obtain ⟨en3, he3⟩ : ∃ z, z = va_up en1 i (.inr (2, [.ref (ad (i + 1)), .int (xI ((m : Int) + 1))])) := ⟨_, rfl⟩
  rw [← he3] at hP
  have ho3 : en3 i = (.inr (2, [.ref (ad (i + 1)), .int (xI ((m : Int) + 1))])) := by rw [he3, va_up_self]
  have hk4 := (show en3 (i + 1) = en1 (i + 1) from by rw [he3, va_up_ne _ _ (by omega)]).trans ho1
  subst he3
  subst he1
  exact xe_v hx hb hrt hlocks hP hS (⟨XR.mk (upd g (Int.toNat (m : Int)) (xI z1)) (va_up_self _ _ _) (by omega) (by rw [va_up_ne _ _ (by omega)]; exact va_up_self _ _ _) (fun k hk => by
      by_cases q : k = m
      · subst q; simp [upd, sp_up_s]
      · rw [sp_up_n _ _ q]; simp only [upd]; rw [if_neg (by omega)]; exact hg2 k (by omega)) (by omega) (fun k hk => by
      by_cases q : k = m
      · subst q; rw [sp_up_s]; exact hz1
      · rw [sp_up_n _ _ q]; exact hr.2.2.2 k (by omega)), (xO.rf.up (by omega) (by omega)).up (by omega) (by omega)⟩) dX2_add_32

set_option maxRecDepth 20000 in
theorem c_X2_resize (l : Launch) (D : va_G) (cA : Nat → ClassId) (n : Nat) (ad : Nat → Nat) (en : Nat → va_E) (sz : Nat) {i m : Nat} {f : Nat → Int} (hi : i + 1 < n) (hr : XR cA ad en i m f) (z1 : Int) (h1 : 0 ≤ z1 ∧ z1 ≤ 200) : Met l yX2_resize (Cond.code yX2_resize cX2_resize 3 none :: xU) (xrm 1 21) (va_Pc [.ref (ad i), .int (xI z1)] (xM D cA n ad en sz)) (va_Qv (fun u => XR cA ad u i z1.toNat (fun t => if t < m then f t else 0) ∧ xO i (i + 2) en u) (xE D n ad) (xA n ad sz)) 0 0 (xA n ad sz) := by
  refine xmet (by decide) (Nat.le_of_ble_eq_true rfl) (fun p e s mm args below meth c ls hx hb hrt hml hown hts hlocks hname hB hl => ?_)
  obtain ⟨⟨hP, hK, hN⟩, hsz, hDt⟩ := hB
  have hD : xD (xA n ad sz) n ad := xD_self hDt sz
  have hA : ∀ q : Nat, s.heap.size ≤ q → xA n ad sz q := fun q h => Or.inr (by rw [← hsz]; exact h)
  have hS : va_S (xA n ad sz) s.heap s.heap [] := va_S.rf
  have hown : s.vm.findClass RX2 = some mm.cls := hown
  have hl : lv_has ls 3 [(0, .ref (ad i)), (1, .int (xI z1))] := hl
  have hm := hr.2.2.1
  refine lv_aload_n hx hb dX2_resize_0 rfl (lv_at hl 0 rfl) ?_
  refine x_get (T := TX2) (N := 2) hx hb hts uX2 hown hK hP (i := i) (by omega) hr.1 rfl 1 (by decide) u_fl_RX2_15 rfl dX2_resize_1 ?_
  refine lv_istore_n (lv' := [(2, .int (xI (m : Int))), (0, .ref (ad i)), (1, .int (xI z1))]) hx hb dX2_resize_4 rfl hl (by decide) rfl (fun ls hl => ?_)
  have L5 : ∀ (nn : Nat) (K : Nat) (F : Nat → Int) (ew5 : Nat → va_E) (H : Heap) (locs : List Loc), (m ≤ K ∧ K ≤ 200 ∧ (m < K → (K : Int) ≤ z1)) → (∀ t : Nat, t < K → F t = if t < m then f t else 0) → ((z1 - K).toNat) < nn → (XR cA ad ew5 i K F) → (xO i (i + 2) en ew5) → va_P D vwCl (xw n ad ew5) H → va_S (xA n ad sz) s.heap H locs → ∀ ls : Array Slot, lv_has ls 3 [(0, .ref (ad i)), (1, .int (xI z1)), (2, .int (xI (K : Int)))] → W p l e (xrm 1 21) s mm args below meth c H locs 0 0 (MQ below (va_Qv (fun u => XR cA ad u i z1.toNat (fun t => if t < m then f t else 0) ∧ xO i (i + 2) en u) (xE D n ad) (xA n ad sz)) args s 0 0 (xA n ad sz)) (F0 mm 5 ls []) := by
    intro nn
    induction nn with
    | zero =>
      intro K F ew5 H locs hk hF hmm hr ho hP hS ls hl
      exact absurd hmm (Nat.not_lt_zero _)
    | succ nn ih =>
      intro K F ew5 H locs hk hF hmm hr ho hP hS ls hl
      refine lv_iload_n hx hb dX2_resize_5 rfl (lv_at hl 2 rfl) ?_
      refine lv_iload_n hx hb dX2_resize_6 rfl (lv_at hl 1 rfl) ?_
      refine x_icmp_ge (tgt := 21) hx hb dX2_resize_7 (by decide) (by omega) (fun c_7 => ?_) (fun c_7 => ?_)
      · refine lv_iload_n hx hb dX2_resize_21 rfl (lv_at hl 1 rfl) ?_
        refine x_if_lt (tgt := 38) hx hb dX2_resize_22 (by decide) (by omega) (fun c_22 => absurd c_22 (by omega)) (fun c_22 => ?_)
        refine lv_iload_n hx hb dX2_resize_25 rfl (lv_at hl 1 rfl) ?_
        refine lv_aload_n hx hb dX2_resize_26 rfl (lv_at hl 0 rfl) ?_
        refine x_get (T := TX2) (N := 2) hx hb hts uX2 hown hK hP (i := i) (by omega) hr.1 rfl 1 (by decide) u_fl_RX2_15 rfl dX2_resize_27 ?_
        refine x_icmp_ge (tgt := 38) hx hb dX2_resize_30 (by decide) (by omega) (fun c_30 => ?_) (fun c_30 => ?_)
        · have e1 : K = z1.toNat := by omega
          exact xe_v hx hb hrt hlocks hP hS (⟨hr.to e1 (fun t ht => hF t (by omega)), ho⟩) dX2_resize_38
        · refine lv_aload_n hx hb dX2_resize_33 rfl (lv_at hl 0 rfl) ?_
          refine lv_iload_n hx hb dX2_resize_34 rfl (lv_at hl 1 rfl) ?_
          refine x_put (T := TX2) (N := 2) (ty := .int) hx hb hts uX2 tyX2 tyX2_ok nmX2 hown hK hP hD hS (i := i) (by omega) hr.1 rfl 1 (by decide) u_fl_RX2_15 rfl (by decide +kernel) rfl rfl (by show 1 < 2; decide) dX2_resize_35 (fun H locs hP hS => ?_)
          have hP : va_P D vwCl (xw n ad (va_up ew5 i (.inr (2, [.ref (ad (i + 1)), .int (xI z1)])))) H := hP
          obtain ⟨en1, he1⟩ : ∃ z, z = va_up ew5 i (.inr (2, [.ref (ad (i + 1)), .int (xI z1)])) := ⟨_, rfl⟩
          rw [← he1] at hP
          have ho1 : en1 i = (.inr (2, [.ref (ad (i + 1)), .int (xI z1)])) := by rw [he1, va_up_self]
          subst he1
          exact xe_v hx hb hrt hlocks hP hS (⟨(hr.sz (m' := z1.toNat) (by omega) (by omega)).to rfl (fun t ht => hF t (by omega)), ho.up (by omega) (by omega)⟩) dX2_resize_38
      · refine lv_aload_n hx hb dX2_resize_10 rfl (lv_at hl 0 rfl) ?_
        refine x_iconst hx hb dX2_resize_11 ?_
        refine xm_v (i := i) (As := [.int (xI 0)]) (rest := []) ⟨hx, hb, hml, hown, hts⟩ hl.1 (c_X2_add l D cA n ad ew5 _ (by omega) hr (by omega) 0 (by omega)) k_X2_add u_ml_RX2_31 hK hN hP (by omega) hr.1 rfl rfl rfl rfl (Nat.le_of_ble_eq_true rfl) ⟨Nat.le_of_ble_eq_true rfl, Nat.le_of_ble_eq_true rfl⟩ ⟨Nat.le_of_ble_eq_true rfl, Nat.le_of_ble_eq_true rfl⟩ dX2_resize_12 hD hS hA (fun en2 H locs hp2 hP hS => ?_)
        obtain ⟨hr, hp2w⟩ := hp2
        have ho := ho.tr hp2w
        refine x_iinc (lv' := [(2, .int (xI ((K : Int) + 1))), (0, .ref (ad i)), (1, .int (xI z1))]) (k := 2) hx hb dX2_resize_15 hl rfl (by decide) rfl (fun ls hl => ?_)
        refine lv_goto (tgt := 5) hx hb dX2_resize_18 (by decide) ?_
        exact ih (K + 1) _ en2 _ _ (⟨by omega, by omega, fun _ => by omega⟩) (fun t ht => by
        by_cases e : t = K
        · subst e
          rw [sp_up_s, if_neg (by omega)]
        · rw [sp_up_n _ _ e]
          exact hF t (by omega)) (by omega) hr ho hP hS ls (lv_sub hl [1, 2, 0] rfl)
  exact L5 _ m f en _ _ (⟨Nat.le_refl _, hm, fun q => by omega⟩) (fun t ht => by rw [if_pos ht]) (Nat.lt_succ_self _) hr xO.rf hP hS ls (lv_sub hl [1, 2, 0] rfl)

set_option maxRecDepth 20000 in
theorem c_X2_copy_a (l : Launch) (D : va_G) (cA : Nat → ClassId) (n : Nat) (ad : Nat → Nat) (en : Nat → va_E) (sz : Nat) {i m : Nat} {f : Nat → Int} (hi : i + 1 < n) (hr : XR cA ad en i m f) {j k : Nat} {h : Nat → Int} (hj : j + 1 < n) (hq : XR cA ad en j k h) (hij : j + 1 < i ∨ i + 1 < j) (z1 z2 : Int) (hz1 : -2147483648 ≤ z1 ∧ z1 ≤ 2147483647) (hz2 : -2147483648 ≤ z2 ∧ z2 ≤ 2147483647) : Met l yX2_copy (Cond.code yX2_copy cX2_copy 4 (some .int) :: xU) (xrm 1 26) (va_Pc [.ref (ad i), .ref (ad j), .int (xI z1), .int (xI z2)] (xM D cA n ad en sz)) (va_Qi (fun r u => ((0 ≤ z1 ∧ z1 ≤ z2 ∧ z2 ≤ (k : Int)) ∧ r = xI (z2 - z1) ∧ XR cA ad u i (z2 - z1).toNat (fun t => h (z1.toNat + t)) ∧ xO i (i + 2) en u) ∨ (¬ (0 ≤ z1 ∧ z1 ≤ z2 ∧ z2 ≤ (k : Int)) ∧ r = xI (-1005) ∧ u = en)) (xE D n ad) (xA n ad sz)) 0 0 (xA n ad sz) := by
  refine xmet (by decide) (Nat.le_of_ble_eq_true rfl) (fun p e s mm args below meth c ls hx hb hrt hml hown hts hlocks hname hB hl => ?_)
  obtain ⟨⟨hP, hK, hN⟩, hsz, hDt⟩ := hB
  have hD : xD (xA n ad sz) n ad := xD_self hDt sz
  have hA : ∀ q : Nat, s.heap.size ≤ q → xA n ad sz q := fun q h => Or.inr (by rw [← hsz]; exact h)
  have hS : va_S (xA n ad sz) s.heap s.heap [] := va_S.rf
  have hown : s.vm.findClass RX2 = some mm.cls := hown
  have hl : lv_has ls 4 [(0, .ref (ad i)), (1, .ref (ad j)), (2, .int (xI z1)), (3, .int (xI z2))] := hl
  have hm := hr.2.2.1
  have hm2 := hq.2.2.1
  obtain ⟨w, hw1, hw2⟩ := hr.2.1
  obtain ⟨g, hg1, hg2⟩ := hq.2.1
  refine lv_aload_n hx hb dX2_copy_0 rfl (lv_at hl 1 rfl) ?_
  refine lv_iload_n hx hb dX2_copy_1 rfl (lv_at hl 2 rfl) ?_
  refine lv_iload_n hx hb dX2_copy_2 rfl (lv_at hl 3 rfl) ?_
  refine xv_i (i := j) (As := [.int (xI z1), .int (xI z2)]) (rest := []) ⟨hx, hb, hml, hown, hts⟩ hl.1 (c_X2_spans l D cA n ad en (by omega) hq z1 z2 (by omega) (by omega)) k_X2_spans u_ml_RX2_35 hK hN hP (by omega) hq.1 rfl rfl rfl rfl (Nat.le_of_ble_eq_true rfl) ⟨Nat.le_of_ble_eq_true rfl, Nat.le_of_ble_eq_true rfl⟩ ⟨Nat.le_of_ble_eq_true rfl, Nat.le_of_ble_eq_true rfl⟩ dX2_copy_3 ?_
  refine x_ifb_ne (tgt := 13) hx hb dX2_copy_6 (by decide)  (fun c_6 => ?_) (fun c_6 => ?_)
  · refine lv_aload_n hx hb dX2_copy_13 rfl (lv_at hl 1 rfl) ?_
    refine x_get (T := TX2) (N := 2) hx hb hts uX2 hown hK hP (i := j) (by omega) hq.1 rfl 0 (by decide) u_fl_RX2_9 rfl dX2_copy_14 ?_
    refine lv_iload_n hx hb dX2_copy_17 rfl (lv_at hl 2 rfl) ?_
    refine lv_aload_n hx hb dX2_copy_18 rfl (lv_at hl 0 rfl) ?_
    refine x_get (T := TX2) (N := 2) hx hb hts uX2 hown hK hP (i := i) (by omega) hr.1 rfl 0 (by decide) u_fl_RX2_9 rfl dX2_copy_19 ?_
    refine x_iconst hx hb dX2_copy_22 ?_
    refine lv_iload_n hx hb dX2_copy_23 rfl (lv_at hl 3 rfl) ?_
    refine lv_iload_n hx hb dX2_copy_24 rfl (lv_at hl 2 rfl) ?_
    refine x_isub hx hb dX2_copy_25 ?_
    refine x_copy hx hb (hml.trans hl.1.symm) hts hown u_ml_RX2_39 hK hP hD hS (i := j + 1) (j := i + 1) (by omega) (by omega) hg1 hw1 (by omega) (Nat.le_of_ble_eq_true rfl) (by first | exact Nat.le_of_ble_eq_true rfl | decide) dX2_copy_26 (fun H locs hP hS => ?_)
    have hP : va_P D vwCl (xw n ad (va_up en (i + 1) (.inl (cA 0, 200, .inl (va_cpy g w (Int.toNat z1) (Int.toNat 0) (Int.toNat (z2 - z1))))))) H := hP
    obtain ⟨en1, he1⟩ : ∃ z, z = va_up en (i + 1) (.inl (cA 0, 200, .inl (va_cpy g w (Int.toNat z1) (Int.toNat 0) (Int.toNat (z2 - z1))))) := ⟨_, rfl⟩
    rw [← he1] at hP
    have ho1 : en1 (i + 1) = (.inl (cA 0, 200, .inl (va_cpy g w (Int.toNat z1) (Int.toNat 0) (Int.toNat (z2 - z1))))) := by rw [he1, va_up_self]
    have hk2 := (show en1 i = en i from by rw [he1, va_up_ne _ _ (by omega)]).trans hr.1
    have hk3 := (show en1 j = en j from by rw [he1, va_up_ne _ _ (by omega)]).trans hq.1
    have hk4 := (show en1 (j + 1) = en (j + 1) from by rw [he1, va_up_ne _ _ (by omega)]).trans hg1
    refine lv_aload_n hx hb dX2_copy_29 rfl (lv_at hl 0 rfl) ?_
    refine lv_iload_n hx hb dX2_copy_30 rfl (lv_at hl 3 rfl) ?_
    refine lv_iload_n hx hb dX2_copy_31 rfl (lv_at hl 2 rfl) ?_
    refine x_isub hx hb dX2_copy_32 ?_
    refine x_put (T := TX2) (N := 2) (ty := .int) hx hb hts uX2 tyX2 tyX2_ok nmX2 hown hK hP hD hS (i := i) (by omega) hk2 rfl 1 (by decide) u_fl_RX2_15 rfl (by decide +kernel) rfl rfl (by show 1 < 2; decide) dX2_copy_33 (fun H locs hP hS => ?_)
    have hP : va_P D vwCl (xw n ad (va_up en1 i (.inr (2, [.ref (ad (i + 1)), .int (xI (z2 - z1))])))) H := hP
    obtain ⟨en5, he5⟩ : ∃ z, z = va_up en1 i (.inr (2, [.ref (ad (i + 1)), .int (xI (z2 - z1))])) := ⟨_, rfl⟩
    rw [← he5] at hP
    have ho5 : en5 i = (.inr (2, [.ref (ad (i + 1)), .int (xI (z2 - z1))])) := by rw [he5, va_up_self]
    have hk6 := (show en5 j = en1 j from by rw [he5, va_up_ne _ _ (by omega)]).trans hk3
    have hk7 := (show en5 (i + 1) = en1 (i + 1) from by rw [he5, va_up_ne _ _ (by omega)]).trans ho1
    have hk8 := (show en5 (j + 1) = en1 (j + 1) from by rw [he5, va_up_ne _ _ (by omega)]).trans hk4
    refine lv_aload_n hx hb dX2_copy_36 rfl (lv_at hl 0 rfl) ?_
    refine x_get (T := TX2) (N := 2) hx hb hts uX2 hown hK hP (i := i) (by omega) ho5 rfl 1 (by decide) u_fl_RX2_15 rfl dX2_copy_37 ?_
    subst he5
    subst he1
    exact xe_i hx hb hrt hlocks hP hS (Or.inl ⟨c_6, rfl, XR.mk _ (va_up_self _ _ _) (by omega) (by rw [va_up_ne _ _ (by omega)]; exact va_up_self _ _ _) (fun t ht => by
      simp only [va_cpy]
      rw [if_pos (by omega)]
      have := hg2 (z1.toNat + t) (by omega)
      rw [show (Int.toNat z1) + (t - Int.toNat 0) = z1.toNat + t by omega]
      exact this) (by omega) (fun t ht => hq.2.2.2 _ (by omega)), (xO.rf.up (by omega) (by omega)).up (by omega) (by omega)⟩) dX2_copy_40
  · refine x_sipush hx hb dX2_copy_9 (by decide +kernel) ?_
    exact xe_i hx hb hrt hlocks hP hS (Or.inr ⟨c_6, rfl, rfl⟩) dX2_copy_12

set_option maxRecDepth 20000 in
theorem c_X2_copy_s (l : Launch) (D : va_G) (cA : Nat → ClassId) (n : Nat) (ad : Nat → Nat) (en : Nat → va_E) (sz : Nat) {i k : Nat} {h : Nat → Int} (hi : i + 1 < n) (hq : XR cA ad en i k h) (z1 z2 : Int) (hz1 : -2147483648 ≤ z1 ∧ z1 ≤ 2147483647) (hz2 : -2147483648 ≤ z2 ∧ z2 ≤ 2147483647) : Met l yX2_copy (Cond.code yX2_copy cX2_copy 4 (some .int) :: xU) (xrm 1 26) (va_Pc [.ref (ad i), .ref (ad i), .int (xI z1), .int (xI z2)] (xM D cA n ad en sz)) (va_Qi (fun r u => ((0 ≤ z1 ∧ z1 ≤ z2 ∧ z2 ≤ (k : Int)) ∧ r = xI (z2 - z1) ∧ XR cA ad u i (z2 - z1).toNat (fun t => h (z1.toNat + t)) ∧ xO i (i + 2) en u) ∨ (¬ (0 ≤ z1 ∧ z1 ≤ z2 ∧ z2 ≤ (k : Int)) ∧ r = xI (-1005) ∧ u = en)) (xE D n ad) (xA n ad sz)) 0 0 (xA n ad sz) := by
  refine xmet (by decide) (Nat.le_of_ble_eq_true rfl) (fun p e s mm args below meth c ls hx hb hrt hml hown hts hlocks hname hB hl => ?_)
  obtain ⟨⟨hP, hK, hN⟩, hsz, hDt⟩ := hB
  have hD : xD (xA n ad sz) n ad := xD_self hDt sz
  have hA : ∀ q : Nat, s.heap.size ≤ q → xA n ad sz q := fun q h => Or.inr (by rw [← hsz]; exact h)
  have hS : va_S (xA n ad sz) s.heap s.heap [] := va_S.rf
  have hown : s.vm.findClass RX2 = some mm.cls := hown
  have hl : lv_has ls 4 [(0, .ref (ad i)), (1, .ref (ad i)), (2, .int (xI z1)), (3, .int (xI z2))] := hl
  have hm2 := hq.2.2.1
  obtain ⟨g, hg1, hg2⟩ := hq.2.1
  refine lv_aload_n hx hb dX2_copy_0 rfl (lv_at hl 1 rfl) ?_
  refine lv_iload_n hx hb dX2_copy_1 rfl (lv_at hl 2 rfl) ?_
  refine lv_iload_n hx hb dX2_copy_2 rfl (lv_at hl 3 rfl) ?_
  refine xv_i (i := i) (As := [.int (xI z1), .int (xI z2)]) (rest := []) ⟨hx, hb, hml, hown, hts⟩ hl.1 (c_X2_spans l D cA n ad en (by omega) hq z1 z2 (by omega) (by omega)) k_X2_spans u_ml_RX2_35 hK hN hP (by omega) hq.1 rfl rfl rfl rfl (Nat.le_of_ble_eq_true rfl) ⟨Nat.le_of_ble_eq_true rfl, Nat.le_of_ble_eq_true rfl⟩ ⟨Nat.le_of_ble_eq_true rfl, Nat.le_of_ble_eq_true rfl⟩ dX2_copy_3 ?_
  refine x_ifb_ne (tgt := 13) hx hb dX2_copy_6 (by decide)  (fun c_6 => ?_) (fun c_6 => ?_)
  · refine lv_aload_n hx hb dX2_copy_13 rfl (lv_at hl 1 rfl) ?_
    refine x_get (T := TX2) (N := 2) hx hb hts uX2 hown hK hP (i := i) (by omega) hq.1 rfl 0 (by decide) u_fl_RX2_9 rfl dX2_copy_14 ?_
    refine lv_iload_n hx hb dX2_copy_17 rfl (lv_at hl 2 rfl) ?_
    refine lv_aload_n hx hb dX2_copy_18 rfl (lv_at hl 0 rfl) ?_
    refine x_get (T := TX2) (N := 2) hx hb hts uX2 hown hK hP (i := i) (by omega) hq.1 rfl 0 (by decide) u_fl_RX2_9 rfl dX2_copy_19 ?_
    refine x_iconst hx hb dX2_copy_22 ?_
    refine lv_iload_n hx hb dX2_copy_23 rfl (lv_at hl 3 rfl) ?_
    refine lv_iload_n hx hb dX2_copy_24 rfl (lv_at hl 2 rfl) ?_
    refine x_isub hx hb dX2_copy_25 ?_
    refine x_copy hx hb (hml.trans hl.1.symm) hts hown u_ml_RX2_39 hK hP hD hS (i := i + 1) (j := i + 1) (by omega) (by omega) hg1 hg1 (by omega) (Nat.le_of_ble_eq_true rfl) (by first | exact Nat.le_of_ble_eq_true rfl | decide) dX2_copy_26 (fun H locs hP hS => ?_)
    have hP : va_P D vwCl (xw n ad (va_up en (i + 1) (.inl (cA 0, 200, .inl (va_cpy g g (Int.toNat z1) (Int.toNat 0) (Int.toNat (z2 - z1))))))) H := hP
    obtain ⟨en1, he1⟩ : ∃ z, z = va_up en (i + 1) (.inl (cA 0, 200, .inl (va_cpy g g (Int.toNat z1) (Int.toNat 0) (Int.toNat (z2 - z1))))) := ⟨_, rfl⟩
    rw [← he1] at hP
    have ho1 : en1 (i + 1) = (.inl (cA 0, 200, .inl (va_cpy g g (Int.toNat z1) (Int.toNat 0) (Int.toNat (z2 - z1))))) := by rw [he1, va_up_self]
    have hk2 := (show en1 i = en i from by rw [he1, va_up_ne _ _ (by omega)]).trans hq.1
    refine lv_aload_n hx hb dX2_copy_29 rfl (lv_at hl 0 rfl) ?_
    refine lv_iload_n hx hb dX2_copy_30 rfl (lv_at hl 3 rfl) ?_
    refine lv_iload_n hx hb dX2_copy_31 rfl (lv_at hl 2 rfl) ?_
    refine x_isub hx hb dX2_copy_32 ?_
    refine x_put (T := TX2) (N := 2) (ty := .int) hx hb hts uX2 tyX2 tyX2_ok nmX2 hown hK hP hD hS (i := i) (by omega) hk2 rfl 1 (by decide) u_fl_RX2_15 rfl (by decide +kernel) rfl rfl (by show 1 < 2; decide) dX2_copy_33 (fun H locs hP hS => ?_)
    have hP : va_P D vwCl (xw n ad (va_up en1 i (.inr (2, [.ref (ad (i + 1)), .int (xI (z2 - z1))])))) H := hP
    obtain ⟨en3, he3⟩ : ∃ z, z = va_up en1 i (.inr (2, [.ref (ad (i + 1)), .int (xI (z2 - z1))])) := ⟨_, rfl⟩
    rw [← he3] at hP
    have ho3 : en3 i = (.inr (2, [.ref (ad (i + 1)), .int (xI (z2 - z1))])) := by rw [he3, va_up_self]
    have hk4 := (show en3 (i + 1) = en1 (i + 1) from by rw [he3, va_up_ne _ _ (by omega)]).trans ho1
    refine lv_aload_n hx hb dX2_copy_36 rfl (lv_at hl 0 rfl) ?_
    refine x_get (T := TX2) (N := 2) hx hb hts uX2 hown hK hP (i := i) (by omega) ho3 rfl 1 (by decide) u_fl_RX2_15 rfl dX2_copy_37 ?_
    subst he3
    subst he1
    exact xe_i hx hb hrt hlocks hP hS (Or.inl ⟨c_6, rfl, XR.mk _ (va_up_self _ _ _) (by omega) (by rw [va_up_ne _ _ (by omega)]; exact va_up_self _ _ _) (fun t ht => by
      simp only [va_cpy]
      rw [if_pos (by omega)]
      have := hg2 (z1.toNat + t) (by omega)
      rw [show (Int.toNat z1) + (t - Int.toNat 0) = z1.toNat + t by omega]
      exact this) (by omega) (fun t ht => hq.2.2.2 _ (by omega)), (xO.rf.up (by omega) (by omega)).up (by omega) (by omega)⟩) dX2_copy_40
  · refine x_sipush hx hb dX2_copy_9 (by decide +kernel) ?_
    exact xe_i hx hb hrt hlocks hP hS (Or.inr ⟨c_6, rfl, rfl⟩) dX2_copy_12

/-- copy, also of a row's own signs -/
theorem c_X2_copy (l : Launch) (D : va_G) (cA : Nat → ClassId) (n : Nat) (ad : Nat → Nat) (en : Nat → va_E) (sz : Nat) {i m : Nat} {f : Nat → Int} (hi : i + 1 < n) (hr : XR cA ad en i m f) {j k : Nat} {h : Nat → Int} (hj : j + 1 < n) (hq : XR cA ad en j k h) (hij : j = i ∨ j + 1 < i ∨ i + 1 < j) (z1 z2 : Int) (hz1 : -2147483648 ≤ z1 ∧ z1 ≤ 2147483647) (hz2 : -2147483648 ≤ z2 ∧ z2 ≤ 2147483647) : Met l yX2_copy (Cond.code yX2_copy cX2_copy 4 (some .int) :: xU) (xrm 1 26) (va_Pc [.ref (ad i), .ref (ad j), .int (xI z1), .int (xI z2)] (xM D cA n ad en sz)) (va_Qi (fun r u => ((0 ≤ z1 ∧ z1 ≤ z2 ∧ z2 ≤ (k : Int)) ∧ r = xI (z2 - z1) ∧ XR cA ad u i (z2 - z1).toNat (fun t => h (z1.toNat + t)) ∧ xO i (i + 2) en u) ∨ (¬ (0 ≤ z1 ∧ z1 ≤ z2 ∧ z2 ≤ (k : Int)) ∧ r = xI (-1005) ∧ u = en)) (xE D n ad) (xA n ad sz)) 0 0 (xA n ad sz) := by
  rcases hij with e | e
  · subst e
    exact c_X2_copy_s l D cA n ad en sz hi hq z1 z2 hz1 hz2
  · exact c_X2_copy_a l D cA n ad en sz hi hr hj hq e z1 z2 hz1 hz2
