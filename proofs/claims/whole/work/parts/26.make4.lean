/-! the object's maker -/
def sp_S0 : xSt := (fun _ => (0, fun _ => 0), fun _ => none, sp_P0, fun _ => none)
/-- the object half made: nb builders, nt texts, nc cutters, k4 signs of the four -/
def XI (cA : Nat → ClassId) (ad : Nat → Nat) (en : Nat → va_E) (nb nt nc k4 : Nat) : Prop :=
  en 0 = .inr (4, [.ref (ad 1), .ref (ad 2), .ref (ad 3), .ref (ad 4), .ref (ad 9), .ref (ad 11)]) ∧
  (∃ g : Nat → Option Nat, en 1 = .inl (cA 2, 4, .inr (.inr (.inr (.inr g)))) ∧ ∀ b : Nat, b < nb → g b = some (ad (13 + 2 * b))) ∧
  (∃ g : Nat → Option Nat, en 2 = .inl (cA 3, 8, .inr (.inr (.inr (.inr g)))) ∧ ∀ b : Nat, b < nt → g b = some (ad (21 + 3 * b))) ∧
  (∃ g : Nat → Option Nat, en 3 = .inl (cA 4, 2, .inr (.inr (.inr (.inr g)))) ∧ ∀ b : Nat, b < nc → g b = some (ad (45 + 4 * b))) ∧
  XP cA ad en sp_P0 ∧ XR cA ad en 9 k4 sp_four ∧ XR cA ad en 11 0 (fun _ => 0) ∧
  (∀ b : Nat, b < nb → XR cA ad en (13 + 2 * b) 0 (fun _ => 0)) ∧ (∀ t : Nat, t < nt → XT cA ad en (21 + 3 * t) none) ∧ ∀ c : Nat, c < nc → XC cA ad en (45 + 4 * c) none
section XI
variable {cA : Nat → ClassId} {ad ad' : Nat → Nat} {en en' : Nat → va_E} {nb nt nc k4 n : Nat}
theorem XI.mv (h : XI cA ad en nb nt nc k4) (g : xG n ad ad' en en') (hn : 13 ≤ n) (hb : nb = 0 ∨ 13 + 2 * nb ≤ n) (ht : nt = 0 ∨ 21 + 3 * nt ≤ n) (hc : nc = 0 ∨ 45 + 4 * nc ≤ n) : XI cA ad' en' nb nt nc k4 := by
  obtain ⟨h0, ⟨g1, h1, h1'⟩, ⟨g2, h2, h2'⟩, ⟨g3, h3, h3'⟩, h4, h5, h6, h7, h8, h9⟩ := h
  refine ⟨?_, ⟨g1, (g 1 (by omega)).2.trans h1, fun b hb => by rw [(g _ (by omega)).1]; exact h1' b hb⟩, ⟨g2, (g 2 (by omega)).2.trans h2, fun b hb => by rw [(g _ (by omega)).1]; exact h2' b hb⟩, ⟨g3, (g 3 (by omega)).2.trans h3, fun b hb => by rw [(g _ (by omega)).1]; exact h3' b hb⟩, h4.mv g (by omega), h5.mv g (by omega), h6.mv g (by omega), fun b hb => (h7 b hb).mv g (by omega), fun b hb => (h8 b hb).mv g (by omega), fun b hb => (h9 b hb).mv g (by omega)⟩
  rw [(g 1 (by omega)).1, (g 2 (by omega)).1, (g 3 (by omega)).1, (g 4 (by omega)).1, (g 9 (by omega)).1, (g 11 (by omega)).1]
  exact (g 0 (by omega)).2.trans h0
theorem XI.b (h : XI cA ad en nb nt nc k4) {g : Nat → Option Nat} (hg : en 1 = .inl (cA 2, 4, .inr (.inr (.inr (.inr g))))) (hg2 : ∀ b : Nat, b < nb → g b = some (ad (13 + 2 * b))) {k : Nat} (hk : k = nb) (hr : XR cA ad en (13 + 2 * nb) 0 (fun _ => 0)) : XI cA ad (va_up en 1 (.inl (cA 2, 4, .inr (.inr (.inr (.inr (va_up g k (some (ad (13 + 2 * nb)))))))))) (nb + 1) nt nc k4 := by
  subst hk
  have ho : xO 1 (1 + 1) en (va_up en 1 (.inl (cA 2, 4, .inr (.inr (.inr (.inr (va_up g k (some (ad (13 + 2 * k)))))))))) := xO.rf.up (Nat.le_refl _) (Nat.lt_succ_self _)
  have hn : ∃ g' : Nat → Option Nat, (va_up en 1 (.inl (cA 2, 4, .inr (.inr (.inr (.inr (va_up g k (some (ad (13 + 2 * k)))))))))) 1 = .inl (cA 2, 4, .inr (.inr (.inr (.inr g')))) ∧ ∀ b : Nat, b < k + 1 → g' b = some (ad (13 + 2 * b)) := ⟨_, va_up_self _ _ _, fun b hb => by
    by_cases q : b = k
    · subst q; exact va_up_self _ _ _
    · rw [va_up_ne _ _ q]; exact hg2 b (by omega)⟩
  generalize (va_up en 1 (.inl (cA 2, 4, .inr (.inr (.inr (.inr (va_up g k (some (ad (13 + 2 * k)))))))))) = en' at ho hn ⊢
  have hr := hr.ko ho (by omega)
  obtain ⟨h0, h1, h2, h3, h4, h5, h6, h7, h8, h9⟩ := h
  obtain ⟨g2, h2, h2'⟩ := h2
  obtain ⟨g3, h3, h3'⟩ := h3
  exact ⟨(ho 0 (by omega)).trans h0, hn, ⟨g2, (ho 2 (by omega)).trans h2, h2'⟩, ⟨g3, (ho 3 (by omega)).trans h3, h3'⟩, h4.ko ho (by omega), h5.ko ho (by omega), h6.ko ho (by omega), (fun c hc => by
    by_cases q : c = k
    · subst q; exact hr
    · exact (h7 c (by omega)).ko ho (by omega)), (fun c hc => (h8 c hc).ko ho (by omega)), (fun c hc => (h9 c hc).ko ho (by omega))⟩
theorem XI.t (h : XI cA ad en nb nt nc k4) {g : Nat → Option Nat} (hg : en 2 = .inl (cA 3, 8, .inr (.inr (.inr (.inr g))))) (hg2 : ∀ b : Nat, b < nt → g b = some (ad (21 + 3 * b))) {k : Nat} (hk : k = nt) (hr : XT cA ad en (21 + 3 * nt) none) : XI cA ad (va_up en 2 (.inl (cA 3, 8, .inr (.inr (.inr (.inr (va_up g k (some (ad (21 + 3 * nt)))))))))) nb (nt + 1) nc k4 := by
  subst hk
  have ho : xO 2 (2 + 1) en (va_up en 2 (.inl (cA 3, 8, .inr (.inr (.inr (.inr (va_up g k (some (ad (21 + 3 * k)))))))))) := xO.rf.up (Nat.le_refl _) (Nat.lt_succ_self _)
  have hn : ∃ g' : Nat → Option Nat, (va_up en 2 (.inl (cA 3, 8, .inr (.inr (.inr (.inr (va_up g k (some (ad (21 + 3 * k)))))))))) 2 = .inl (cA 3, 8, .inr (.inr (.inr (.inr g')))) ∧ ∀ b : Nat, b < k + 1 → g' b = some (ad (21 + 3 * b)) := ⟨_, va_up_self _ _ _, fun b hb => by
    by_cases q : b = k
    · subst q; exact va_up_self _ _ _
    · rw [va_up_ne _ _ q]; exact hg2 b (by omega)⟩
  generalize (va_up en 2 (.inl (cA 3, 8, .inr (.inr (.inr (.inr (va_up g k (some (ad (21 + 3 * k)))))))))) = en' at ho hn ⊢
  have hr := hr.ko ho (by omega)
  obtain ⟨h0, h1, h2, h3, h4, h5, h6, h7, h8, h9⟩ := h
  obtain ⟨g1, h1, h1'⟩ := h1
  obtain ⟨g3, h3, h3'⟩ := h3
  exact ⟨(ho 0 (by omega)).trans h0, ⟨g1, (ho 1 (by omega)).trans h1, h1'⟩, hn, ⟨g3, (ho 3 (by omega)).trans h3, h3'⟩, h4.ko ho (by omega), h5.ko ho (by omega), h6.ko ho (by omega), (fun c hc => (h7 c hc).ko ho (by omega)), (fun c hc => by
    by_cases q : c = k
    · subst q; exact hr
    · exact (h8 c (by omega)).ko ho (by omega)), (fun c hc => (h9 c hc).ko ho (by omega))⟩
theorem XI.c (h : XI cA ad en nb nt nc k4) {g : Nat → Option Nat} (hg : en 3 = .inl (cA 4, 2, .inr (.inr (.inr (.inr g))))) (hg2 : ∀ b : Nat, b < nc → g b = some (ad (45 + 4 * b))) {k : Nat} (hk : k = nc) (hr : XC cA ad en (45 + 4 * nc) none) : XI cA ad (va_up en 3 (.inl (cA 4, 2, .inr (.inr (.inr (.inr (va_up g k (some (ad (45 + 4 * nc)))))))))) nb nt (nc + 1) k4 := by
  subst hk
  have ho : xO 3 (3 + 1) en (va_up en 3 (.inl (cA 4, 2, .inr (.inr (.inr (.inr (va_up g k (some (ad (45 + 4 * k)))))))))) := xO.rf.up (Nat.le_refl _) (Nat.lt_succ_self _)
  have hn : ∃ g' : Nat → Option Nat, (va_up en 3 (.inl (cA 4, 2, .inr (.inr (.inr (.inr (va_up g k (some (ad (45 + 4 * k)))))))))) 3 = .inl (cA 4, 2, .inr (.inr (.inr (.inr g')))) ∧ ∀ b : Nat, b < k + 1 → g' b = some (ad (45 + 4 * b)) := ⟨_, va_up_self _ _ _, fun b hb => by
    by_cases q : b = k
    · subst q; exact va_up_self _ _ _
    · rw [va_up_ne _ _ q]; exact hg2 b (by omega)⟩
  generalize (va_up en 3 (.inl (cA 4, 2, .inr (.inr (.inr (.inr (va_up g k (some (ad (45 + 4 * k)))))))))) = en' at ho hn ⊢
  have hr := hr.ko ho (by omega)
  obtain ⟨h0, h1, h2, h3, h4, h5, h6, h7, h8, h9⟩ := h
  obtain ⟨g1, h1, h1'⟩ := h1
  obtain ⟨g2, h2, h2'⟩ := h2
  exact ⟨(ho 0 (by omega)).trans h0, ⟨g1, (ho 1 (by omega)).trans h1, h1'⟩, ⟨g2, (ho 2 (by omega)).trans h2, h2'⟩, hn, h4.ko ho (by omega), h5.ko ho (by omega), h6.ko ho (by omega), (fun c hc => (h7 c hc).ko ho (by omega)), (fun c hc => (h8 c hc).ko ho (by omega)), (fun c hc => by
    by_cases q : c = k
    · subst q; exact hr
    · exact (h9 c (by omega)).ko ho (by omega))⟩
theorem XI.four (h : XI cA ad en 4 8 2 k4) {k5 : Nat} (ho : xO 9 11 en en') (hr : XR cA ad en' 9 k5 sp_four) : XI cA ad en' 4 8 2 k5 := by
  obtain ⟨h0, ⟨g1, h1, h1'⟩, ⟨g2, h2, h2'⟩, ⟨g3, h3, h3'⟩, h4, h5, h6, h7, h8, h9⟩ := h
  exact ⟨(ho 0 (by omega)).trans h0, ⟨g1, (ho 1 (by omega)).trans h1, h1'⟩, ⟨g2, (ho 2 (by omega)).trans h2, h2'⟩, ⟨g3, (ho 3 (by omega)).trans h3, h3'⟩, h4.ko ho (by omega), hr, h6.ko ho (by omega), fun c hc => (h7 c hc).ko ho (by omega), fun c hc => (h8 c hc).ko ho (by omega), fun c hc => (h9 c hc).ko ho (by omega)⟩
theorem XI.whole (h : XI cA ad en 4 8 2 4) : CW cA ad en sp_S0 := by
  obtain ⟨h0, h1, h2, h3, h4, h5, h6, h7, h8, h9⟩ := h
  exact ⟨h0, h1, h2, h3, h4, h5, ⟨0, _, h6⟩, h7, h8, h9⟩
end XI
theorem sp_four_b (j : Nat) : 108 ≤ sp_four j ∧ sp_four j ≤ 117 := by unfold sp_four; omega
def x4A (A : Nat → Prop) (U : State) (H : Heap) : Prop := ∃ t : Nat, va_Z "RowsOfSigns" "THE_FOUR" "[I" (.ref t) A U H ∧ va_T .int t 4 (fun j => .int (xI (sp_four j))) A U H

set_option maxHeartbeats 1000000 in
set_option maxRecDepth 20000 in
theorem c_X4_init (l : Launch) (D : va_G) (cA : Nat → ClassId) (ad : Nat → Nat) (en : Nat → va_E) (sz : Nat) (he : en 0 = .inr (4, [.null, .null, .null, .null, .null, .null])) : Met l yX4_init (Cond.code yX4_init cX4_init 2 none :: xU) (xrg 3 52 4392 52) (va_Pc [.ref (ad 0)] (fun U => xMg D cA 1 ad en sz U ∧ x4A (xA 1 ad sz) U U.heap)) (va_Qv (fun u => u.1 0 = ad 0 ∧ CW cA u.1 u.2 sp_S0) (xEg D (53) (1) ad sz) (xA (1) ad sz)) 52 4392 (xA (1) ad sz) := by
  refine xmet (by decide) (Nat.le_of_ble_eq_true rfl) (fun p e s mm args below meth c ls hx hb hrt hml hown hts hlocks hname hB hl => ?_)
  obtain ⟨⟨⟨⟨hP, hK, hN⟩, hsz, hDt⟩, hQ⟩, tN, hZ1, hZ2⟩ := hB
  have hD : xD (xA (1) ad sz) (1) ad := xD_self hDt sz
  have hA : ∀ q : Nat, s.heap.size ≤ q → xA (1) ad sz q := fun q h => Or.inr (by rw [← hsz]; exact h)
  have hS : va_S (xA (1) ad sz) s.heap s.heap [] := va_S.rf
  have hown : s.vm.findClass RX4 = some mm.cls := hown
  have hl : lv_has ls 2 [(0, .ref (ad 0))] := hl
  refine lv_aload_n hx hb dX4_init_0 rfl (lv_at hl 0 rfl) ?_
  refine W.objInit hx hb hown (hts _ u_ml_RX4_3) (hts _ u_im_objectInit) (hts _ u_co_objectInit) rfl (by rw [hml]; exact hl.1) rfl dX4_init_1 (Nat.le_of_ble_eq_true rfl) (Nat.le_of_ble_eq_true rfl) ?_
  refine W.eq (g2 := F0 mm 4 ls []) rfl ?_
  refine lv_aload_n hx hb dX4_init_4 rfl (lv_at hl 0 rfl) ?_
  refine x_iconst hx hb dX4_init_5 ?_
  refine x_newq hx hb hts hown u_cl_RX4_9 hQ.2.1 2 (by decide) rfl hK hP hD hS hA (k := 4) (by omega) (by show 0 + 1 ≤ 52; omega) (by show 0 + 4 ≤ 4392; omega) dX4_init_6 (fun ad1 en1 H hg1 he1 hP hD hS => ?_)
  have hl : lv_has ls 2 [(0, .ref (ad1 0))] := by rw [(hg1 0 (by omega)).1]; exact hl
  refine x_tor1 ((hg1 0 (by omega)).1.symm) ?_
  have hm2 : en1 0 = .inr (4, [.null, .null, .null, .null, .null, .null]) := (hg1 0 (by omega)).2.trans he
  have hG : xG 0 ad ad1 en en1 := hg1.le (by omega)
  have hG1 : ad1 0 = ad 0 := (hg1 0 (by omega)).1
  refine x_putF (T := TX4) (N := 6) (ty := tyX4 0) hx hb hts uX4 tyX4 tyX4_ok nmX4 hown hK hP hD hS (i := 0) (by omega) hm2 rfl 0 (by decide) u_fl_RX4_11 rfl hname rfl (by decide +kernel) rfl rfl (by show 0 < 6; decide) dX4_init_9 (fun H locs hP hS => ?_)
  have hP : va_P D vwCl (xw 2 ad1 (va_up en1 0 (.inr (4, [.ref (ad1 1), .null, .null, .null, .null, .null])))) H := hP
  obtain ⟨en3, he3⟩ : ∃ z, z = va_up en1 0 (.inr (4, [.ref (ad1 1), .null, .null, .null, .null, .null])) := ⟨_, rfl⟩
  rw [← he3] at hP
  have ho3 : en3 0 = (.inr (4, [.ref (ad1 1), .null, .null, .null, .null, .null])) := by rw [he3, va_up_self]
  have hk4 := (show en3 1 = en1 1 from by rw [he3, va_up_ne _ _ (by omega)]).trans he1
  have hG : xG 0 ad ad1 en en3 := by rw [he3]; exact hG.up (by omega)
  refine lv_aload_n hx hb dX4_init_12 rfl (lv_at hl 0 rfl) ?_
  refine x_bipush hx hb dX4_init_13 (by decide +kernel) ?_
  refine x_newq hx hb hts hown u_cl_RX4_15 hQ.2.2.1 3 (by decide) rfl hK hP hD hS hA (k := 8) (by omega) (by show 0 + 1 + 1 ≤ 52; omega) (by show 0 + 4 + 8 ≤ 4392; omega) dX4_init_15 (fun ad5 en5 H hg5 he5 hP hD hS => ?_)
  have hl : lv_has ls 2 [(0, .ref (ad5 0))] := by rw [(hg5 0 (by omega)).1]; exact hl
  refine x_tor1 ((hg5 0 (by omega)).1.symm) ?_
  have hm6 : en5 0 = .inr (4, [.ref (ad5 1), .null, .null, .null, .null, .null]) := by rw [(hg5 1 (by omega)).1]; exact (hg5 0 (by omega)).2.trans ho3
  have hm7 := (hg5 1 (by omega)).2.trans hk4
  have hG : xG 0 ad ad5 en en5 := hG.tr hg5 (by omega)
  have hG1 : ad5 0 = ad 0 := (hg5 0 (by omega)).1.trans hG1
  refine x_putF (T := TX4) (N := 6) (ty := tyX4 1) hx hb hts uX4 tyX4 tyX4_ok nmX4 hown hK hP hD hS (i := 0) (by omega) hm6 rfl 1 (by decide) u_fl_RX4_17 rfl hname rfl (by decide +kernel) rfl rfl (by show 1 < 6; decide) dX4_init_18 (fun H locs hP hS => ?_)
  have hP : va_P D vwCl (xw 3 ad5 (va_up en5 0 (.inr (4, [.ref (ad5 1), .ref (ad5 2), .null, .null, .null, .null])))) H := hP
  obtain ⟨en8, he8⟩ : ∃ z, z = va_up en5 0 (.inr (4, [.ref (ad5 1), .ref (ad5 2), .null, .null, .null, .null])) := ⟨_, rfl⟩
  rw [← he8] at hP
  have ho8 : en8 0 = (.inr (4, [.ref (ad5 1), .ref (ad5 2), .null, .null, .null, .null])) := by rw [he8, va_up_self]
  have hk9 := (show en8 1 = en5 1 from by rw [he8, va_up_ne _ _ (by omega)]).trans hm7
  have hk10 := (show en8 2 = en5 2 from by rw [he8, va_up_ne _ _ (by omega)]).trans he5
  have hG : xG 0 ad ad5 en en8 := by rw [he8]; exact hG.up (by omega)
  refine lv_aload_n hx hb dX4_init_21 rfl (lv_at hl 0 rfl) ?_
  refine x_iconst hx hb dX4_init_22 ?_
  refine x_newq hx hb hts hown u_cl_RX4_21 hQ.2.2.2 4 (by decide) rfl hK hP hD hS hA (k := 2) (by omega) (by show 0 + 1 + 1 + 1 ≤ 52; omega) (by show 0 + 4 + 8 + 2 ≤ 4392; omega) dX4_init_23 (fun ad11 en11 H hg11 he11 hP hD hS => ?_)
  have hl : lv_has ls 2 [(0, .ref (ad11 0))] := by rw [(hg11 0 (by omega)).1]; exact hl
  refine x_tor1 ((hg11 0 (by omega)).1.symm) ?_
  have hm12 : en11 0 = .inr (4, [.ref (ad11 1), .ref (ad11 2), .null, .null, .null, .null]) := by rw [(hg11 1 (by omega)).1, (hg11 2 (by omega)).1]; exact (hg11 0 (by omega)).2.trans ho8
  have hm13 := (hg11 1 (by omega)).2.trans hk9
  have hm14 := (hg11 2 (by omega)).2.trans hk10
  have hG : xG 0 ad ad11 en en11 := hG.tr hg11 (by omega)
  have hG1 : ad11 0 = ad 0 := (hg11 0 (by omega)).1.trans hG1
  refine x_putF (T := TX4) (N := 6) (ty := tyX4 2) hx hb hts uX4 tyX4 tyX4_ok nmX4 hown hK hP hD hS (i := 0) (by omega) hm12 rfl 2 (by decide) u_fl_RX4_23 rfl hname rfl (by decide +kernel) rfl rfl (by show 2 < 6; decide) dX4_init_26 (fun H locs hP hS => ?_)
  have hP : va_P D vwCl (xw 4 ad11 (va_up en11 0 (.inr (4, [.ref (ad11 1), .ref (ad11 2), .ref (ad11 3), .null, .null, .null])))) H := hP
  obtain ⟨en15, he15⟩ : ∃ z, z = va_up en11 0 (.inr (4, [.ref (ad11 1), .ref (ad11 2), .ref (ad11 3), .null, .null, .null])) := ⟨_, rfl⟩
  rw [← he15] at hP
  have ho15 : en15 0 = (.inr (4, [.ref (ad11 1), .ref (ad11 2), .ref (ad11 3), .null, .null, .null])) := by rw [he15, va_up_self]
  have hk16 := (show en15 1 = en11 1 from by rw [he15, va_up_ne _ _ (by omega)]).trans hm13
  have hk17 := (show en15 2 = en11 2 from by rw [he15, va_up_ne _ _ (by omega)]).trans hm14
  have hk18 := (show en15 3 = en11 3 from by rw [he15, va_up_ne _ _ (by omega)]).trans he11
  have hG : xG 0 ad ad11 en en15 := by rw [he15]; exact hG.up (by omega)
  refine lv_aload_n hx hb dX4_init_29 rfl (lv_at hl 0 rfl) ?_
  refine x_new (T := TX1) (N := 4) (ci := 1) hx hb hts uX1 tyX1 tyX1_ok hown u_cl_RX4_27 u_ib_RX1 u_in_RX1 hK hP hD hS hA rfl [.null, .null, .null, .int (xI ((0 : Nat) : Int))] (fun j hj => match j, hj with | 0, _ => rfl | 1, _ => rfl | 2, _ => rfl | 3, _ => congrArg Value.int xI_z | j + 4, h => absurd h (by omega)) (by show 0 + 1 + 1 + 1 + 1 ≤ 52; omega) (by show 0 + 4 + 8 + 2 + 4 ≤ 4392; omega) dX4_init_30 (fun ad19 en19 H hg19 he19 hP hD hS => ?_)
  have hl : lv_has ls 2 [(0, .ref (ad19 0))] := by rw [(hg19 0 (by omega)).1]; exact hl
  refine x_tor1 ((hg19 0 (by omega)).1.symm) ?_
  have hm20 : en19 0 = .inr (4, [.ref (ad19 1), .ref (ad19 2), .ref (ad19 3), .null, .null, .null]) := by rw [(hg19 1 (by omega)).1, (hg19 2 (by omega)).1, (hg19 3 (by omega)).1]; exact (hg19 0 (by omega)).2.trans ho15
  have hm21 := (hg19 1 (by omega)).2.trans hk16
  have hm22 := (hg19 2 (by omega)).2.trans hk17
  have hm23 := (hg19 3 (by omega)).2.trans hk18
  have hG : xG 0 ad ad19 en en19 := hG.tr hg19 (by omega)
  have hG1 : ad19 0 = ad 0 := (hg19 0 (by omega)).1.trans hG1
  refine lv_dup hx hb dX4_init_33 rfl ?_
  refine xc_init ⟨hx, hb, hml, hown, hts⟩ hl.1 (c_X1_init l D cA  ad19 en19 _ he19) u_co_yX1_init u_in_RX1 u_im_yX1_init (by simp only [xNestM, List.mem_cons]; exact Or.inl rfl) rfl (by decide +kernel) hK hN hQ hP (Nat.le_of_ble_eq_true rfl) ⟨Nat.le_of_ble_eq_true rfl, Nat.le_of_ble_eq_true rfl⟩ ⟨(by show 0 + 1 + 1 + 1 + 1 + 4 ≤ 52; omega), (by show 0 + 4 + 8 + 2 + 4 + 604 ≤ 4392; omega)⟩ dX4_init_34 hD hS hA (fun ad24 en24 H locs hp24 hP hD hS => ?_)
  obtain ⟨hg24, ha24, hr24⟩ := hp24
  have hg24 : xG 4 ad19 ad24 en19 en24 := hg24
  have ha24 : ad24 4 = ad19 4 := ha24
  have hr24 : XP cA ad24 en24 sp_P0 := hr24
  have hl : lv_has ls 2 [(0, .ref (ad24 0))] := by rw [(hg24 0 (by omega)).1]; exact hl
  refine x_tor (ha24.symm) ?_
  refine x_tor1 ((hg24 0 (by omega)).1.symm) ?_
  have hm25 : en24 0 = .inr (4, [.ref (ad24 1), .ref (ad24 2), .ref (ad24 3), .null, .null, .null]) := by rw [(hg24 1 (by omega)).1, (hg24 2 (by omega)).1, (hg24 3 (by omega)).1]; exact (hg24 0 (by omega)).2.trans hm20
  have hm26 := (hg24 1 (by omega)).2.trans hm21
  have hm27 := (hg24 2 (by omega)).2.trans hm22
  have hm28 := (hg24 3 (by omega)).2.trans hm23
  have hG : xG 0 ad ad24 en en24 := hG.tr hg24 (by omega)
  have hG1 : ad24 0 = ad 0 := (hg24 0 (by omega)).1.trans hG1
  refine x_putF (T := TX4) (N := 6) (ty := tyX4 3) hx hb hts uX4 tyX4 tyX4_ok nmX4 hown hK hP hD hS (i := 0) (by omega) hm25 rfl 3 (by decide) u_fl_RX4_30 rfl hname rfl (by decide +kernel) rfl rfl (by show 3 < 6; decide) dX4_init_37 (fun H locs hP hS => ?_)
  have hP : va_P D vwCl (xw 9 ad24 (va_up en24 0 (.inr (4, [.ref (ad24 1), .ref (ad24 2), .ref (ad24 3), .ref (ad24 4), .null, .null])))) H := hP
  obtain ⟨en29, he29⟩ : ∃ z, z = va_up en24 0 (.inr (4, [.ref (ad24 1), .ref (ad24 2), .ref (ad24 3), .ref (ad24 4), .null, .null])) := ⟨_, rfl⟩
  rw [← he29] at hP
  have ho29 : en29 0 = (.inr (4, [.ref (ad24 1), .ref (ad24 2), .ref (ad24 3), .ref (ad24 4), .null, .null])) := by rw [he29, va_up_self]
  have hk30 := (show en29 1 = en24 1 from by rw [he29, va_up_ne _ _ (by omega)]).trans hm26
  have hk31 := (show en29 2 = en24 2 from by rw [he29, va_up_ne _ _ (by omega)]).trans hm27
  have hk32 := (show en29 3 = en24 3 from by rw [he29, va_up_ne _ _ (by omega)]).trans hm28
  have hoe : xO 0 (0 + 1) en24 en29 := by rw [he29]; exact xO.rf.up (Nat.le_refl _) (Nat.lt_succ_self _)
  have hr24 := hr24.ko hoe (by omega)
  have hG : xG 0 ad ad24 en en29 := by rw [he29]; exact hG.up (by omega)
  refine lv_aload_n hx hb dX4_init_40 rfl (lv_at hl 0 rfl) ?_
  refine x_new (T := TX2) (N := 2) (ci := 2) hx hb hts uX2 tyX2 tyX2_ok hown u_cl_RX4_9 u_ib_RX2 u_in_RX2 hK hP hD hS hA rfl [.null, .int (xI ((0 : Nat) : Int))] (fun j hj => match j, hj with | 0, _ => rfl | 1, _ => congrArg Value.int xI_z | j + 2, h => absurd h (by omega)) (by show 0 + 1 + 1 + 1 + 1 + 4 + 1 ≤ 52; omega) (by show 0 + 4 + 8 + 2 + 4 + 604 + 2 ≤ 4392; omega) dX4_init_41 (fun ad33 en33 H hg33 he33 hP hD hS => ?_)
  have hl : lv_has ls 2 [(0, .ref (ad33 0))] := by rw [(hg33 0 (by omega)).1]; exact hl
  refine x_tor1 ((hg33 0 (by omega)).1.symm) ?_
  have hm34 : en33 0 = .inr (4, [.ref (ad33 1), .ref (ad33 2), .ref (ad33 3), .ref (ad33 4), .null, .null]) := by rw [(hg33 1 (by omega)).1, (hg33 2 (by omega)).1, (hg33 3 (by omega)).1, (hg33 4 (by omega)).1]; exact (hg33 0 (by omega)).2.trans ho29
  have hm35 := (hg33 1 (by omega)).2.trans hk30
  have hm36 := (hg33 2 (by omega)).2.trans hk31
  have hm37 := (hg33 3 (by omega)).2.trans hk32
  have hr24 := hr24.mv hg33 (by omega)
  have hG : xG 0 ad ad33 en en33 := hG.tr hg33 (by omega)
  have hG1 : ad33 0 = ad 0 := (hg33 0 (by omega)).1.trans hG1
  refine lv_dup hx hb dX4_init_44 rfl ?_
  refine xc_init ⟨hx, hb, hml, hown, hts⟩ hl.1 (c_X2_init l D cA 9 ad33 en33 _ he33) u_co_yX2_init u_in_RX2 u_im_yX2_init (by simp only [xNestM, List.mem_cons]; exact Or.inr (Or.inr (Or.inl rfl))) rfl (by decide +kernel) hK hN hQ hP (Nat.le_of_ble_eq_true rfl) ⟨Nat.le_of_ble_eq_true rfl, Nat.le_of_ble_eq_true rfl⟩ ⟨(by show 0 + 1 + 1 + 1 + 1 + 4 + 1 + 1 ≤ 52; omega), (by show 0 + 4 + 8 + 2 + 4 + 604 + 2 + 200 ≤ 4392; omega)⟩ dX4_init_45 hD hS hA (fun ad38 en38 H locs hp38 hP hD hS => ?_)
  obtain ⟨hg38, ha38, hr38⟩ := hp38
  have hg38 : xG 9 ad33 ad38 en33 en38 := hg38
  have ha38 : ad38 9 = ad33 9 := ha38
  have hr38 : XR cA ad38 en38 9 0 (fun _ => 0) := hr38
  have hl : lv_has ls 2 [(0, .ref (ad38 0))] := by rw [(hg38 0 (by omega)).1]; exact hl
  refine x_tor (ha38.symm) ?_
  refine x_tor1 ((hg38 0 (by omega)).1.symm) ?_
  have hm39 : en38 0 = .inr (4, [.ref (ad38 1), .ref (ad38 2), .ref (ad38 3), .ref (ad38 4), .null, .null]) := by rw [(hg38 1 (by omega)).1, (hg38 2 (by omega)).1, (hg38 3 (by omega)).1, (hg38 4 (by omega)).1]; exact (hg38 0 (by omega)).2.trans hm34
  have hm40 := (hg38 1 (by omega)).2.trans hm35
  have hm41 := (hg38 2 (by omega)).2.trans hm36
  have hm42 := (hg38 3 (by omega)).2.trans hm37
  have hr24 := hr24.mv hg38 (by omega)
  have hG : xG 0 ad ad38 en en38 := hG.tr hg38 (by omega)
  have hG1 : ad38 0 = ad 0 := (hg38 0 (by omega)).1.trans hG1
  refine x_putF (T := TX4) (N := 6) (ty := tyX4 4) hx hb hts uX4 tyX4 tyX4_ok nmX4 hown hK hP hD hS (i := 0) (by omega) hm39 rfl 4 (by decide) u_fl_RX4_35 rfl hname rfl (by decide +kernel) rfl rfl (by show 4 < 6; decide) dX4_init_48 (fun H locs hP hS => ?_)
  have hP : va_P D vwCl (xw 11 ad38 (va_up en38 0 (.inr (4, [.ref (ad38 1), .ref (ad38 2), .ref (ad38 3), .ref (ad38 4), .ref (ad38 9), .null])))) H := hP
  obtain ⟨en43, he43⟩ : ∃ z, z = va_up en38 0 (.inr (4, [.ref (ad38 1), .ref (ad38 2), .ref (ad38 3), .ref (ad38 4), .ref (ad38 9), .null])) := ⟨_, rfl⟩
  rw [← he43] at hP
  have ho43 : en43 0 = (.inr (4, [.ref (ad38 1), .ref (ad38 2), .ref (ad38 3), .ref (ad38 4), .ref (ad38 9), .null])) := by rw [he43, va_up_self]
  have hk44 := (show en43 9 = en38 9 from by rw [he43, va_up_ne _ _ (by omega)]).trans hr38.1
  have hk45 := (show en43 1 = en38 1 from by rw [he43, va_up_ne _ _ (by omega)]).trans hm40
  have hk46 := (show en43 2 = en38 2 from by rw [he43, va_up_ne _ _ (by omega)]).trans hm41
  have hk47 := (show en43 3 = en38 3 from by rw [he43, va_up_ne _ _ (by omega)]).trans hm42
  have hoe : xO 0 (0 + 1) en38 en43 := by rw [he43]; exact xO.rf.up (Nat.le_refl _) (Nat.lt_succ_self _)
  have hr24 := hr24.ko hoe (by omega)
  have hr38 := hr38.ko hoe (by omega)
  have hG : xG 0 ad ad38 en en43 := by rw [he43]; exact hG.up (by omega)
  refine lv_aload_n hx hb dX4_init_51 rfl (lv_at hl 0 rfl) ?_
  refine x_new (T := TX2) (N := 2) (ci := 2) hx hb hts uX2 tyX2 tyX2_ok hown u_cl_RX4_9 u_ib_RX2 u_in_RX2 hK hP hD hS hA rfl [.null, .int (xI ((0 : Nat) : Int))] (fun j hj => match j, hj with | 0, _ => rfl | 1, _ => congrArg Value.int xI_z | j + 2, h => absurd h (by omega)) (by show 0 + 1 + 1 + 1 + 1 + 4 + 1 + 1 + 1 ≤ 52; omega) (by show 0 + 4 + 8 + 2 + 4 + 604 + 2 + 200 + 2 ≤ 4392; omega) dX4_init_52 (fun ad48 en48 H hg48 he48 hP hD hS => ?_)
  have hl : lv_has ls 2 [(0, .ref (ad48 0))] := by rw [(hg48 0 (by omega)).1]; exact hl
  refine x_tor1 ((hg48 0 (by omega)).1.symm) ?_
  have hm49 : en48 0 = .inr (4, [.ref (ad48 1), .ref (ad48 2), .ref (ad48 3), .ref (ad48 4), .ref (ad48 9), .null]) := by rw [(hg48 1 (by omega)).1, (hg48 2 (by omega)).1, (hg48 3 (by omega)).1, (hg48 4 (by omega)).1, (hg48 9 (by omega)).1]; exact (hg48 0 (by omega)).2.trans ho43
  have hm50 : en48 9 = .inr (2, [.ref (ad48 10), .int (xI ((0 : Nat) : Int))]) := by rw [(hg48 10 (by omega)).1]; exact (hg48 9 (by omega)).2.trans hr38.1
  have hm51 := (hg48 1 (by omega)).2.trans hk45
  have hm52 := (hg48 2 (by omega)).2.trans hk46
  have hm53 := (hg48 3 (by omega)).2.trans hk47
  have hr24 := hr24.mv hg48 (by omega)
  have hr38 := hr38.mv hg48 (by omega)
  have hG : xG 0 ad ad48 en en48 := hG.tr hg48 (by omega)
  have hG1 : ad48 0 = ad 0 := (hg48 0 (by omega)).1.trans hG1
  refine lv_dup hx hb dX4_init_55 rfl ?_
  refine xc_init ⟨hx, hb, hml, hown, hts⟩ hl.1 (c_X2_init l D cA 11 ad48 en48 _ he48) u_co_yX2_init u_in_RX2 u_im_yX2_init (by simp only [xNestM, List.mem_cons]; exact Or.inr (Or.inr (Or.inl rfl))) rfl (by decide +kernel) hK hN hQ hP (Nat.le_of_ble_eq_true rfl) ⟨Nat.le_of_ble_eq_true rfl, Nat.le_of_ble_eq_true rfl⟩ ⟨(by show 0 + 1 + 1 + 1 + 1 + 4 + 1 + 1 + 1 + 1 ≤ 52; omega), (by show 0 + 4 + 8 + 2 + 4 + 604 + 2 + 200 + 2 + 200 ≤ 4392; omega)⟩ dX4_init_56 hD hS hA (fun ad54 en54 H locs hp54 hP hD hS => ?_)
  obtain ⟨hg54, ha54, hr54⟩ := hp54
  have hg54 : xG 11 ad48 ad54 en48 en54 := hg54
  have ha54 : ad54 11 = ad48 11 := ha54
  have hr54 : XR cA ad54 en54 11 0 (fun _ => 0) := hr54
  have hl : lv_has ls 2 [(0, .ref (ad54 0))] := by rw [(hg54 0 (by omega)).1]; exact hl
  refine x_tor (ha54.symm) ?_
  refine x_tor1 ((hg54 0 (by omega)).1.symm) ?_
  have hm55 : en54 0 = .inr (4, [.ref (ad54 1), .ref (ad54 2), .ref (ad54 3), .ref (ad54 4), .ref (ad54 9), .null]) := by rw [(hg54 1 (by omega)).1, (hg54 2 (by omega)).1, (hg54 3 (by omega)).1, (hg54 4 (by omega)).1, (hg54 9 (by omega)).1]; exact (hg54 0 (by omega)).2.trans hm49
  have hm56 : en54 9 = .inr (2, [.ref (ad54 10), .int (xI ((0 : Nat) : Int))]) := by rw [(hg54 10 (by omega)).1]; exact (hg54 9 (by omega)).2.trans hr38.1
  have hm57 := (hg54 1 (by omega)).2.trans hm51
  have hm58 := (hg54 2 (by omega)).2.trans hm52
  have hm59 := (hg54 3 (by omega)).2.trans hm53
  have hr24 := hr24.mv hg54 (by omega)
  have hr38 := hr38.mv hg54 (by omega)
  have hG : xG 0 ad ad54 en en54 := hG.tr hg54 (by omega)
  have hG1 : ad54 0 = ad 0 := (hg54 0 (by omega)).1.trans hG1
  refine x_putF (T := TX4) (N := 6) (ty := tyX4 5) hx hb hts uX4 tyX4 tyX4_ok nmX4 hown hK hP hD hS (i := 0) (by omega) hm55 rfl 5 (by decide) u_fl_RX4_39 rfl hname rfl (by decide +kernel) rfl rfl (by show 5 < 6; decide) dX4_init_59 (fun H locs hP hS => ?_)
  have hP : va_P D vwCl (xw 13 ad54 (va_up en54 0 (.inr (4, [.ref (ad54 1), .ref (ad54 2), .ref (ad54 3), .ref (ad54 4), .ref (ad54 9), .ref (ad54 11)])))) H := hP
  obtain ⟨en60, he60⟩ : ∃ z, z = va_up en54 0 (.inr (4, [.ref (ad54 1), .ref (ad54 2), .ref (ad54 3), .ref (ad54 4), .ref (ad54 9), .ref (ad54 11)])) := ⟨_, rfl⟩
  rw [← he60] at hP
  have ho60 : en60 0 = (.inr (4, [.ref (ad54 1), .ref (ad54 2), .ref (ad54 3), .ref (ad54 4), .ref (ad54 9), .ref (ad54 11)])) := by rw [he60, va_up_self]
  have hk61 := (show en60 9 = en54 9 from by rw [he60, va_up_ne _ _ (by omega)]).trans hr38.1
  have hk62 := (show en60 11 = en54 11 from by rw [he60, va_up_ne _ _ (by omega)]).trans hr54.1
  have hk63 := (show en60 1 = en54 1 from by rw [he60, va_up_ne _ _ (by omega)]).trans hm57
  have hk64 := (show en60 2 = en54 2 from by rw [he60, va_up_ne _ _ (by omega)]).trans hm58
  have hk65 := (show en60 3 = en54 3 from by rw [he60, va_up_ne _ _ (by omega)]).trans hm59
  have hoe : xO 0 (0 + 1) en54 en60 := by rw [he60]; exact xO.rf.up (Nat.le_refl _) (Nat.lt_succ_self _)
  have hr24 := hr24.ko hoe (by omega)
  have hr38 := hr38.ko hoe (by omega)
  have hr54 := hr54.ko hoe (by omega)
  have hG : xG 0 ad ad54 en en60 := by rw [he60]; exact hG.up (by omega)
  refine x_iconst hx hb dX4_init_62 ?_
  refine lv_istore_n (lv' := [(1, .int (xI 0)), (0, .ref (ad54 0))]) hx hb dX4_init_63 rfl hl (by decide) rfl (fun ls hl => ?_)
  have L64 : ∀ (nn b : Nat) (aw64 : Nat → Nat) (ew64 : Nat → va_E) (H : Heap) (locs : List Loc), 4 - b < nn → b ≤ 4 → aw64 0 = ad 0 → XI cA aw64 ew64 b 0 0 0 → va_P D vwCl (xw (13 + 2 * b) aw64 ew64) H → xD (xA 1 ad sz) (13 + 2 * b) aw64 → va_S (xA 1 ad sz) s.heap H locs → ∀ ls : Array Slot, lv_has ls 2 [(0, .ref (aw64 0)), (1, .int (xI (b : Int)))] → W p l e (xrg 3 52 4392 52) s mm args below meth c H locs (12 + 2 * b) (1026 + 202 * b) (MQ below (va_Qv (fun u => u.1 0 = ad 0 ∧ CW cA u.1 u.2 sp_S0) (xEg D (53) (1) ad sz) (xA (1) ad sz)) args s 52 4392 (xA 1 ad sz)) (F0 mm 64 ls []) := by
    intro nn
    induction nn with
    | zero =>
      intro b aw64 ew64 H locs hmm hb9 ha0 hX hP hD hS ls hl
      exact absurd hmm (Nat.not_lt_zero _)
    | succ nn ih =>
      intro b aw64 ew64 H locs hmm hb9 ha0 hX hP hD hS ls hl
      obtain ⟨gB, hB1, hB2⟩ := hX.2.1
      obtain ⟨gT, hT1, hT2⟩ := hX.2.2.1
      obtain ⟨gC, hC1, hC2⟩ := hX.2.2.2.1
      refine lv_iload_n hx hb dX4_init_64 rfl (lv_at hl 1 rfl) ?_
      refine lv_aload_n hx hb dX4_init_65 rfl (lv_at hl 0 rfl) ?_
      refine x_get (T := TX4) (N := 6) hx hb hts uX4 hown hK hP (i := 0) (by omega) hX.1 rfl 0 (by decide) u_fl_RX4_11 rfl dX4_init_66 ?_
      refine x_alen hx hb hK hP (i := 1) (by omega) 2 hB1 rfl dX4_init_69 ?_
      refine x_icmp_ge (tgt := 92) hx hb dX4_init_70 (by decide) (by omega) (fun c_70 => ?_) (fun c_70 => ?_)
      · refine x_iconst hx hb dX4_init_92 ?_
        refine lv_istore_n (lv' := [(1, .int (xI 0)), (0, .ref (aw64 0))]) hx hb dX4_init_93 rfl hl (by decide) rfl (fun ls hl => ?_)
        have L94 : ∀ (nn t : Nat) (aw94 : Nat → Nat) (ew94 : Nat → va_E) (H : Heap) (locs : List Loc), 8 - t < nn → t ≤ 8 → aw94 0 = ad 0 → XI cA aw94 ew94 4 t 0 0 → va_P D vwCl (xw (21 + 3 * t) aw94 ew94) H → xD (xA 1 ad sz) (21 + 3 * t) aw94 → va_S (xA 1 ad sz) s.heap H locs → ∀ ls : Array Slot, lv_has ls 2 [(0, .ref (aw94 0)), (1, .int (xI (t : Int)))] → W p l e (xrg 3 52 4392 52) s mm args below meth c H locs (20 + 3 * t) (1834 + 204 * t) (MQ below (va_Qv (fun u => u.1 0 = ad 0 ∧ CW cA u.1 u.2 sp_S0) (xEg D (53) (1) ad sz) (xA (1) ad sz)) args s 52 4392 (xA 1 ad sz)) (F0 mm 94 ls []) := by
          intro nn
          induction nn with
          | zero =>
            intro t aw94 ew94 H locs hmm ht9 ha0 hX hP hD hS ls hl
            exact absurd hmm (Nat.not_lt_zero _)
          | succ nn ih =>
            intro t aw94 ew94 H locs hmm ht9 ha0 hX hP hD hS ls hl
            obtain ⟨gB, hB1, hB2⟩ := hX.2.1
            obtain ⟨gT, hT1, hT2⟩ := hX.2.2.1
            obtain ⟨gC, hC1, hC2⟩ := hX.2.2.2.1
            refine lv_iload_n hx hb dX4_init_94 rfl (lv_at hl 1 rfl) ?_
            refine lv_aload_n hx hb dX4_init_95 rfl (lv_at hl 0 rfl) ?_
            refine x_get (T := TX4) (N := 6) hx hb hts uX4 hown hK hP (i := 0) (by omega) hX.1 rfl 1 (by decide) u_fl_RX4_17 rfl dX4_init_96 ?_
            refine x_alen hx hb hK hP (i := 2) (by omega) 3 hT1 rfl dX4_init_99 ?_
            refine x_icmp_ge (tgt := 122) hx hb dX4_init_100 (by decide) (by omega) (fun c_100 => ?_) (fun c_100 => ?_)
            · refine x_iconst hx hb dX4_init_122 ?_
              refine lv_istore_n (lv' := [(1, .int (xI 0)), (0, .ref (aw94 0))]) hx hb dX4_init_123 rfl hl (by decide) rfl (fun ls hl => ?_)
              have L124 : ∀ (nn k : Nat) (aw124 : Nat → Nat) (ew124 : Nat → va_E) (H : Heap) (locs : List Loc), 2 - k < nn → k ≤ 2 → aw124 0 = ad 0 → XI cA aw124 ew124 4 8 k 0 → va_P D vwCl (xw (45 + 4 * k) aw124 ew124) H → xD (xA 1 ad sz) (45 + 4 * k) aw124 → va_S (xA 1 ad sz) s.heap H locs → ∀ ls : Array Slot, lv_has ls 2 [(0, .ref (aw124 0)), (1, .int (xI (k : Int)))] → W p l e (xrg 3 52 4392 52) s mm args below meth c H locs (44 + 4 * k) (3466 + 463 * k) (MQ below (va_Qv (fun u => u.1 0 = ad 0 ∧ CW cA u.1 u.2 sp_S0) (xEg D (53) (1) ad sz) (xA (1) ad sz)) args s 52 4392 (xA 1 ad sz)) (F0 mm 124 ls []) := by
                intro nn
                induction nn with
                | zero =>
                  intro k aw124 ew124 H locs hmm hk9 ha0 hX hP hD hS ls hl
                  exact absurd hmm (Nat.not_lt_zero _)
                | succ nn ih =>
                  intro k aw124 ew124 H locs hmm hk9 ha0 hX hP hD hS ls hl
                  obtain ⟨gB, hB1, hB2⟩ := hX.2.1
                  obtain ⟨gT, hT1, hT2⟩ := hX.2.2.1
                  obtain ⟨gC, hC1, hC2⟩ := hX.2.2.2.1
                  refine lv_iload_n hx hb dX4_init_124 rfl (lv_at hl 1 rfl) ?_
                  refine lv_aload_n hx hb dX4_init_125 rfl (lv_at hl 0 rfl) ?_
                  refine x_get (T := TX4) (N := 6) hx hb hts uX4 hown hK hP (i := 0) (by omega) hX.1 rfl 2 (by decide) u_fl_RX4_23 rfl dX4_init_126 ?_
                  refine x_alen hx hb hK hP (i := 3) (by omega) 4 hC1 rfl dX4_init_129 ?_
                  refine x_icmp_ge (tgt := 152) hx hb dX4_init_130 (by decide) (by omega) (fun c_130 => ?_) (fun c_130 => ?_)
                  · refine x_iconst hx hb dX4_init_152 ?_
                    refine lv_istore_n (lv' := [(1, .int (xI 0)), (0, .ref (aw124 0))]) hx hb dX4_init_153 rfl hl (by decide) rfl (fun ls hl => ?_)
                    have h4e : k = 2 := by omega
                    have hX : XI cA aw124 ew124 4 8 2 0 := by rw [h4e] at hX; exact hX
                    have hP : va_P D vwCl (xw 53 aw124 ew124) H := by rw [show 53 = 45 + 4 * k by omega]; exact hP
                    have hD : xD (xA 1 ad sz) 53 aw124 := by rw [show 53 = 45 + 4 * k by omega]; exact hD
                    have L154 : ∀ (nn k9 : Nat) (ew : Nat → va_E) (H : Heap) (locs : List Loc), 4 - k9 < nn → k9 ≤ 4 → XI cA aw124 ew 4 8 2 k9 → va_P D vwCl (xw 53 aw124 ew) H → va_S (xA 1 ad sz) s.heap H locs → ∀ ls : Array Slot, lv_has ls 2 [(0, .ref (aw124 0)), (1, .int (xI (k9 : Int)))] → W p l e (xrg 3 52 4392 52) s mm args below meth c H locs 52 4392 (MQ below (va_Qv (fun u => u.1 0 = ad 0 ∧ CW cA u.1 u.2 sp_S0) (xEg D (53) (1) ad sz) (xA (1) ad sz)) args s 52 4392 (xA 1 ad sz)) (F0 mm 154 ls []) := by
                      intro nn
                      induction nn with
                      | zero =>
                        intro k9 ew H locs hmm hk9 hX hP hS ls hl
                        exact absurd hmm (Nat.not_lt_zero _)
                      | succ nn ih =>
                        intro k9 ew H locs hmm hk9 hX hP hS ls hl
                        obtain ⟨gB, hB1, hB2⟩ := hX.2.1
                        obtain ⟨gT, hT1, hT2⟩ := hX.2.2.1
                        obtain ⟨gC, hC1, hC2⟩ := hX.2.2.2.1
                        refine lv_iload_n hx hb dX4_init_154 rfl (lv_at hl 1 rfl) ?_
                        refine va_gets hx hb hZ1 hS hown (hts _ u_fl_RX4_44) (fun _ h => h) dX4_init_155 ?_
                        refine va_tlen hx hb hZ2 hS (v := xI 4) (by decide +kernel) dX4_init_158 ?_
                        refine x_icmp_ge (tgt := 180) hx hb dX4_init_159 (by decide) (by omega) (fun c_159 => ?_) (fun c_159 => ?_)
                        · have hk4 : k9 = 4 := by omega
                          subst hk4
                          exact xe_g hx hb hrt hlocks hP hD hS (⟨ha0, hX.whole⟩) dX4_init_180
                        · refine lv_aload_n hx hb dX4_init_162 rfl (lv_at hl 0 rfl) ?_
                          refine x_get (T := TX4) (N := 6) hx hb hts uX4 hown hK hP (i := 0) (by omega) hX.1 rfl 4 (by decide) u_fl_RX4_35 rfl dX4_init_163 ?_
                          refine va_gets hx hb hZ1 hS hown (hts _ u_fl_RX4_44) (fun _ h => h) dX4_init_166 ?_
                          refine lv_iload_n hx hb dX4_init_169 rfl (lv_at hl 1 rfl) ?_
                          refine va_ti hx hb hZ2 hS (xI_in (by omega)) (v := .int (xI (sp_four (Int.toNat (k9 : Int))))) (by rw [xI_clamp (by omega)]) dX4_init_170 ?_
                          have hfb := sp_four_b (Int.toNat (k9 : Int))
                          refine xm_v (i := 9) (As := [.int (xI (sp_four (Int.toNat (k9 : Int))))]) (rest := []) ⟨hx, hb, hml, hown, hts⟩ hl.1 (c_X2_add l D cA 53 aw124 ew _ (by omega) hX.2.2.2.2.2.1 (by omega) (sp_four (Int.toNat (k9 : Int))) (by omega)) k_X2_add u_ml_RX4_48 hK hN hP (by omega) hX.2.2.2.2.2.1.1 rfl rfl rfl rfl (Nat.le_of_ble_eq_true rfl) ⟨Nat.le_of_ble_eq_true rfl, Nat.le_of_ble_eq_true rfl⟩ ⟨Nat.le_of_ble_eq_true rfl, Nat.le_of_ble_eq_true rfl⟩ dX4_init_171 hD hS hA (fun en66 H locs hp66 hP hS => ?_)
                          obtain ⟨hx9, ho9⟩ := hp66
                          have hX := hX.four ho9 (hx9.to rfl (fun t ht => by
                            by_cases q : t = k9
                            · rw [q, sp_up_s]; exact congrArg sp_four (by omega)
                            · rw [sp_up_n _ _ q]))
                          refine x_iinc (lv' := [(1, .int (xI ((k9 : Int) + 1))), (0, .ref (aw124 0))]) (k := 1) hx hb dX4_init_174 hl rfl (by decide) rfl (fun ls hl => ?_)
                          refine lv_goto (tgt := 154) hx hb dX4_init_177 (by decide) ?_
                          exact ih (k9 + 1) _ _ _ (by omega) (by omega) hX hP hS ls (lv_sub hl [1, 0] rfl)
                    exact x_ce (by omega) (by omega) (L154 _ 0 ew124 _ _ (Nat.lt_succ_self _) (Nat.zero_le _) hX hP hS ls (lv_sub hl [1, 0] rfl))
                  · refine lv_aload_n hx hb dX4_init_133 rfl (lv_at hl 0 rfl) ?_
                    refine x_get (T := TX4) (N := 6) hx hb hts uX4 hown hK hP (i := 0) (by omega) hX.1 rfl 2 (by decide) u_fl_RX4_23 rfl dX4_init_134 ?_
                    refine lv_iload_n hx hb dX4_init_137 rfl (lv_at hl 1 rfl) ?_
                    refine x_new (T := TX0) (N := 5) (ci := 0) hx hb hts uX0 tyX0 tyX0_ok hown u_cl_RX4_21 u_ib_RX0 u_in_RX0 hK hP hD hS hA rfl [.null, .null, .int (xb False), .int (xI 0), .int (xI 0)] (fun j hj => match j, hj with | 0, _ => rfl | 1, _ => rfl | 2, _ => congrArg Value.int (xb_0 id) | 3, _ => congrArg Value.int xI_z | 4, _ => congrArg Value.int xI_z | j + 5, h => absurd h (by omega)) (by show 44 + 4 * k + 1 ≤ 52; omega) (by show 3466 + 463 * k + 5 ≤ 4392; omega) dX4_init_138 (fun ad67 en67 H hg67 he67 hP hD hS => ?_)
                    have hl : lv_has ls 2 [(0, .ref (ad67 0)), (1, .int (xI (k : Int)))] := by rw [(hg67 0 (by omega)).1]; exact hl
                    refine x_tor2 ((hg67 3 (by omega)).1.symm) ?_
                    have hX := hX.mv hg67 (by omega) (by omega) (by omega) (by omega)
                    have ha0 : ad67 0 = ad 0 := (hg67 0 (by omega)).1.trans ha0
                    obtain ⟨gB, hB1, hB2⟩ := hX.2.1
                    obtain ⟨gT, hT1, hT2⟩ := hX.2.2.1
                    obtain ⟨gC, hC1, hC2⟩ := hX.2.2.2.1
                    refine lv_dup hx hb dX4_init_141 rfl ?_
                    refine xc_init ⟨hx, hb, hml, hown, hts⟩ hl.1 (c_X0_init l D cA (45 + 4 * k) ad67 en67 _ he67) u_co_yX0_init u_in_RX0 u_im_yX0_init (by simp only [xNestM, List.mem_cons]; exact Or.inr (Or.inr (Or.inr (Or.inr (Or.inr (Or.inl rfl)))))) rfl (by decide +kernel) hK hN hQ hP (Nat.le_of_ble_eq_true rfl) ⟨Nat.le_of_ble_eq_true rfl, Nat.le_of_ble_eq_true rfl⟩ ⟨(by show 44 + 4 * k + 1 + 3 ≤ 52; omega), (by show 3466 + 463 * k + 5 + 458 ≤ 4392; omega)⟩ dX4_init_142 hD hS hA (fun ad68 en68 H locs hp68 hP hD hS => ?_)
                    obtain ⟨hg68, ha68, hr68⟩ := hp68
                    have hg68 : xG (45 + 4 * k) ad67 ad68 en67 en68 := hg68
                    have ha68 : ad68 (45 + 4 * k) = ad67 (45 + 4 * k) := ha68
                    have hr68 : XC cA ad68 en68 (45 + 4 * k) none := hr68
                    have hl : lv_has ls 2 [(0, .ref (ad68 0)), (1, .int (xI (k : Int)))] := by rw [(hg68 0 (by omega)).1]; exact hl
                    refine x_tor (ha68.symm) ?_
                    refine x_tor2 ((hg68 3 (by omega)).1.symm) ?_
                    have hX := hX.mv hg68 (by omega) (by omega) (by omega) (by omega)
                    have ha0 : ad68 0 = ad 0 := (hg68 0 (by omega)).1.trans ha0
                    obtain ⟨gB, hB1, hB2⟩ := hX.2.1
                    obtain ⟨gT, hT1, hT2⟩ := hX.2.2.1
                    obtain ⟨gC, hC1, hC2⟩ := hX.2.2.2.1
                    refine x_qst hx hb hK hP hD hS (i := 3) (j := 45 + 4 * k) (by omega) (by omega) 4 hC1 rfl hr68.choose_spec.choose_spec.1 rfl (by omega) dX4_init_145 (fun H locs hP hS => ?_)
                    have hP : va_P D vwCl (xw (45 + 4 * k + 4) ad68 (va_up en68 3 (.inl (cA 4, 2, .inr (.inr (.inr (.inr (va_up gC (Int.toNat (k : Int)) (some (ad68 (45 + 4 * k))))))))))) H := hP
                    obtain ⟨en69, he69⟩ : ∃ z, z = va_up en68 3 (.inl (cA 4, 2, .inr (.inr (.inr (.inr (va_up gC (Int.toNat (k : Int)) (some (ad68 (45 + 4 * k))))))))) := ⟨_, rfl⟩
                    rw [← he69] at hP
                    have ho69 : en69 3 = (.inl (cA 4, 2, .inr (.inr (.inr (.inr (va_up gC (Int.toNat (k : Int)) (some (ad68 (45 + 4 * k))))))))) := by rw [he69, va_up_self]
                    have hk70 := (show en69 0 = en68 0 from by rw [he69, va_up_ne _ _ (by omega)]).trans hX.1
                    have hk71 := (show en69 1 = en68 1 from by rw [he69, va_up_ne _ _ (by omega)]).trans hB1
                    have hk72 := (show en69 2 = en68 2 from by rw [he69, va_up_ne _ _ (by omega)]).trans hT1
                    refine x_iinc (lv' := [(1, .int (xI ((k : Int) + 1))), (0, .ref (ad68 0))]) (k := 1) hx hb dX4_init_146 hl rfl (by decide) rfl (fun ls hl => ?_)
                    refine lv_goto (tgt := 124) hx hb dX4_init_149 (by decide) ?_
                    have hX : XI cA ad68 en69 4 8 (k + 1) 0 := by rw [he69]; exact hX.c hC1 hC2 (k := Int.toNat (k : Int)) (by omega) hr68
                    have hP : va_P D vwCl (xw (45 + 4 * (k + 1)) ad68 en69) H := by rw [show 45 + 4 * (k + 1) = 45 + 4 * k + 4 by omega]; exact hP
                    have hD : xD (xA 1 ad sz) (45 + 4 * (k + 1)) ad68 := by rw [show 45 + 4 * (k + 1) = 45 + 4 * k + 4 by omega]; exact hD
                    exact x_ce (by omega) (by omega) (ih (k + 1) ad68 en69 _ _ (by omega) (by omega) ha0 hX hP hD hS ls (lv_sub hl [1, 0] rfl))
              have h4e : t = 8 := by omega
              have hX : XI cA aw94 ew94 4 8 0 0 := by rw [h4e] at hX; exact hX
              have hP : va_P D vwCl (xw (45 + 4 * 0) aw94 ew94) H := by rw [show 45 + 4 * 0 = 21 + 3 * t by omega]; exact hP
              have hD : xD (xA 1 ad sz) (45 + 4 * 0) aw94 := by rw [show 45 + 4 * 0 = 21 + 3 * t by omega]; exact hD
              exact x_ce (by omega) (by omega) (L124 _ 0 _ _ _ _ (Nat.lt_succ_self _) (Nat.zero_le _) ha0 hX hP hD hS ls (lv_sub hl [1, 0] rfl))
            · refine lv_aload_n hx hb dX4_init_103 rfl (lv_at hl 0 rfl) ?_
              refine x_get (T := TX4) (N := 6) hx hb hts uX4 hown hK hP (i := 0) (by omega) hX.1 rfl 1 (by decide) u_fl_RX4_17 rfl dX4_init_104 ?_
              refine lv_iload_n hx hb dX4_init_107 rfl (lv_at hl 1 rfl) ?_
              refine x_new (T := TX3) (N := 2) (ci := 3) hx hb hts uX3 tyX3 tyX3_ok hown u_cl_RX4_15 u_ib_RX3 u_in_RX3 hK hP hD hS hA rfl [.null, .int (xI 0)] (fun j hj => match j, hj with | 0, _ => rfl | 1, _ => congrArg Value.int xI_z | j + 2, h => absurd h (by omega)) (by show 20 + 3 * t + 1 ≤ 52; omega) (by show 1834 + 204 * t + 2 ≤ 4392; omega) dX4_init_108 (fun ad73 en73 H hg73 he73 hP hD hS => ?_)
              have hl : lv_has ls 2 [(0, .ref (ad73 0)), (1, .int (xI (t : Int)))] := by rw [(hg73 0 (by omega)).1]; exact hl
              refine x_tor2 ((hg73 2 (by omega)).1.symm) ?_
              have hX := hX.mv hg73 (by omega) (by omega) (by omega) (by omega)
              have ha0 : ad73 0 = ad 0 := (hg73 0 (by omega)).1.trans ha0
              obtain ⟨gB, hB1, hB2⟩ := hX.2.1
              obtain ⟨gT, hT1, hT2⟩ := hX.2.2.1
              obtain ⟨gC, hC1, hC2⟩ := hX.2.2.2.1
              refine lv_dup hx hb dX4_init_111 rfl ?_
              refine xc_init ⟨hx, hb, hml, hown, hts⟩ hl.1 (c_X3_init l D cA (21 + 3 * t) ad73 en73 _ he73) u_co_yX3_init u_in_RX3 u_im_yX3_init (by simp only [xNestM, List.mem_cons]; exact Or.inr (Or.inr (Or.inr (Or.inl rfl)))) rfl (by decide +kernel) hK hN hQ hP (Nat.le_of_ble_eq_true rfl) ⟨Nat.le_of_ble_eq_true rfl, Nat.le_of_ble_eq_true rfl⟩ ⟨(by show 20 + 3 * t + 1 + 2 ≤ 52; omega), (by show 1834 + 204 * t + 2 + 202 ≤ 4392; omega)⟩ dX4_init_112 hD hS hA (fun ad74 en74 H locs hp74 hP hD hS => ?_)
              obtain ⟨hg74, ha74, hr74⟩ := hp74
              have hg74 : xG (21 + 3 * t) ad73 ad74 en73 en74 := hg74
              have ha74 : ad74 (21 + 3 * t) = ad73 (21 + 3 * t) := ha74
              have hr74 : XT cA ad74 en74 (21 + 3 * t) none := hr74
              have hl : lv_has ls 2 [(0, .ref (ad74 0)), (1, .int (xI (t : Int)))] := by rw [(hg74 0 (by omega)).1]; exact hl
              refine x_tor (ha74.symm) ?_
              refine x_tor2 ((hg74 2 (by omega)).1.symm) ?_
              have hX := hX.mv hg74 (by omega) (by omega) (by omega) (by omega)
              have ha0 : ad74 0 = ad 0 := (hg74 0 (by omega)).1.trans ha0
              obtain ⟨gB, hB1, hB2⟩ := hX.2.1
              obtain ⟨gT, hT1, hT2⟩ := hX.2.2.1
              obtain ⟨gC, hC1, hC2⟩ := hX.2.2.2.1
              refine x_qst hx hb hK hP hD hS (i := 2) (j := 21 + 3 * t) (by omega) (by omega) 3 hT1 rfl hr74.1 rfl (by omega) dX4_init_115 (fun H locs hP hS => ?_)
              have hP : va_P D vwCl (xw (21 + 3 * t + 3) ad74 (va_up en74 2 (.inl (cA 3, 8, .inr (.inr (.inr (.inr (va_up gT (Int.toNat (t : Int)) (some (ad74 (21 + 3 * t))))))))))) H := hP
              obtain ⟨en75, he75⟩ : ∃ z, z = va_up en74 2 (.inl (cA 3, 8, .inr (.inr (.inr (.inr (va_up gT (Int.toNat (t : Int)) (some (ad74 (21 + 3 * t))))))))) := ⟨_, rfl⟩
              rw [← he75] at hP
              have ho75 : en75 2 = (.inl (cA 3, 8, .inr (.inr (.inr (.inr (va_up gT (Int.toNat (t : Int)) (some (ad74 (21 + 3 * t))))))))) := by rw [he75, va_up_self]
              have hk76 := (show en75 0 = en74 0 from by rw [he75, va_up_ne _ _ (by omega)]).trans hX.1
              have hk77 := (show en75 1 = en74 1 from by rw [he75, va_up_ne _ _ (by omega)]).trans hB1
              have hk78 := (show en75 3 = en74 3 from by rw [he75, va_up_ne _ _ (by omega)]).trans hC1
              refine x_iinc (lv' := [(1, .int (xI ((t : Int) + 1))), (0, .ref (ad74 0))]) (k := 1) hx hb dX4_init_116 hl rfl (by decide) rfl (fun ls hl => ?_)
              refine lv_goto (tgt := 94) hx hb dX4_init_119 (by decide) ?_
              have hX : XI cA ad74 en75 4 (t + 1) 0 0 := by rw [he75]; exact hX.t hT1 hT2 (k := Int.toNat (t : Int)) (by omega) hr74
              have hP : va_P D vwCl (xw (21 + 3 * (t + 1)) ad74 en75) H := by rw [show 21 + 3 * (t + 1) = 21 + 3 * t + 3 by omega]; exact hP
              have hD : xD (xA 1 ad sz) (21 + 3 * (t + 1)) ad74 := by rw [show 21 + 3 * (t + 1) = 21 + 3 * t + 3 by omega]; exact hD
              exact x_ce (by omega) (by omega) (ih (t + 1) ad74 en75 _ _ (by omega) (by omega) ha0 hX hP hD hS ls (lv_sub hl [1, 0] rfl))
        have h4e : b = 4 := by omega
        have hX : XI cA aw64 ew64 4 0 0 0 := by rw [h4e] at hX; exact hX
        have hP : va_P D vwCl (xw (21 + 3 * 0) aw64 ew64) H := by rw [show 21 + 3 * 0 = 13 + 2 * b by omega]; exact hP
        have hD : xD (xA 1 ad sz) (21 + 3 * 0) aw64 := by rw [show 21 + 3 * 0 = 13 + 2 * b by omega]; exact hD
        exact x_ce (by omega) (by omega) (L94 _ 0 _ _ _ _ (Nat.lt_succ_self _) (Nat.zero_le _) ha0 hX hP hD hS ls (lv_sub hl [1, 0] rfl))
      · refine lv_aload_n hx hb dX4_init_73 rfl (lv_at hl 0 rfl) ?_
        refine x_get (T := TX4) (N := 6) hx hb hts uX4 hown hK hP (i := 0) (by omega) hX.1 rfl 0 (by decide) u_fl_RX4_11 rfl dX4_init_74 ?_
        refine lv_iload_n hx hb dX4_init_77 rfl (lv_at hl 1 rfl) ?_
        refine x_new (T := TX2) (N := 2) (ci := 2) hx hb hts uX2 tyX2 tyX2_ok hown u_cl_RX4_9 u_ib_RX2 u_in_RX2 hK hP hD hS hA rfl [.null, .int (xI ((0 : Nat) : Int))] (fun j hj => match j, hj with | 0, _ => rfl | 1, _ => congrArg Value.int xI_z | j + 2, h => absurd h (by omega)) (by show 12 + 2 * b + 1 ≤ 52; omega) (by show 1026 + 202 * b + 2 ≤ 4392; omega) dX4_init_78 (fun ad79 en79 H hg79 he79 hP hD hS => ?_)
        have hl : lv_has ls 2 [(0, .ref (ad79 0)), (1, .int (xI (b : Int)))] := by rw [(hg79 0 (by omega)).1]; exact hl
        refine x_tor2 ((hg79 1 (by omega)).1.symm) ?_
        have hX := hX.mv hg79 (by omega) (by omega) (by omega) (by omega)
        have ha0 : ad79 0 = ad 0 := (hg79 0 (by omega)).1.trans ha0
        obtain ⟨gB, hB1, hB2⟩ := hX.2.1
        obtain ⟨gT, hT1, hT2⟩ := hX.2.2.1
        obtain ⟨gC, hC1, hC2⟩ := hX.2.2.2.1
        refine lv_dup hx hb dX4_init_81 rfl ?_
        refine xc_init ⟨hx, hb, hml, hown, hts⟩ hl.1 (c_X2_init l D cA (13 + 2 * b) ad79 en79 _ he79) u_co_yX2_init u_in_RX2 u_im_yX2_init (by simp only [xNestM, List.mem_cons]; exact Or.inr (Or.inr (Or.inl rfl))) rfl (by decide +kernel) hK hN hQ hP (Nat.le_of_ble_eq_true rfl) ⟨Nat.le_of_ble_eq_true rfl, Nat.le_of_ble_eq_true rfl⟩ ⟨(by show 12 + 2 * b + 1 + 1 ≤ 52; omega), (by show 1026 + 202 * b + 2 + 200 ≤ 4392; omega)⟩ dX4_init_82 hD hS hA (fun ad80 en80 H locs hp80 hP hD hS => ?_)
        obtain ⟨hg80, ha80, hr80⟩ := hp80
        have hg80 : xG (13 + 2 * b) ad79 ad80 en79 en80 := hg80
        have ha80 : ad80 (13 + 2 * b) = ad79 (13 + 2 * b) := ha80
        have hr80 : XR cA ad80 en80 (13 + 2 * b) 0 (fun _ => 0) := hr80
        have hl : lv_has ls 2 [(0, .ref (ad80 0)), (1, .int (xI (b : Int)))] := by rw [(hg80 0 (by omega)).1]; exact hl
        refine x_tor (ha80.symm) ?_
        refine x_tor2 ((hg80 1 (by omega)).1.symm) ?_
        have hX := hX.mv hg80 (by omega) (by omega) (by omega) (by omega)
        have ha0 : ad80 0 = ad 0 := (hg80 0 (by omega)).1.trans ha0
        obtain ⟨gB, hB1, hB2⟩ := hX.2.1
        obtain ⟨gT, hT1, hT2⟩ := hX.2.2.1
        obtain ⟨gC, hC1, hC2⟩ := hX.2.2.2.1
        refine x_qst hx hb hK hP hD hS (i := 1) (j := 13 + 2 * b) (by omega) (by omega) 2 hB1 rfl hr80.1 rfl (by omega) dX4_init_85 (fun H locs hP hS => ?_)
        have hP : va_P D vwCl (xw (13 + 2 * b + 2) ad80 (va_up en80 1 (.inl (cA 2, 4, .inr (.inr (.inr (.inr (va_up gB (Int.toNat (b : Int)) (some (ad80 (13 + 2 * b))))))))))) H := hP
        obtain ⟨en81, he81⟩ : ∃ z, z = va_up en80 1 (.inl (cA 2, 4, .inr (.inr (.inr (.inr (va_up gB (Int.toNat (b : Int)) (some (ad80 (13 + 2 * b))))))))) := ⟨_, rfl⟩
        rw [← he81] at hP
        have ho81 : en81 1 = (.inl (cA 2, 4, .inr (.inr (.inr (.inr (va_up gB (Int.toNat (b : Int)) (some (ad80 (13 + 2 * b))))))))) := by rw [he81, va_up_self]
        have hk82 := (show en81 0 = en80 0 from by rw [he81, va_up_ne _ _ (by omega)]).trans hX.1
        have hk83 := (show en81 (13 + 2 * b) = en80 (13 + 2 * b) from by rw [he81, va_up_ne _ _ (by omega)]).trans hr80.1
        have hk84 := (show en81 2 = en80 2 from by rw [he81, va_up_ne _ _ (by omega)]).trans hT1
        have hk85 := (show en81 3 = en80 3 from by rw [he81, va_up_ne _ _ (by omega)]).trans hC1
        refine x_iinc (lv' := [(1, .int (xI ((b : Int) + 1))), (0, .ref (ad80 0))]) (k := 1) hx hb dX4_init_86 hl rfl (by decide) rfl (fun ls hl => ?_)
        refine lv_goto (tgt := 64) hx hb dX4_init_89 (by decide) ?_
        have hX : XI cA ad80 en81 (b + 1) 0 0 0 := by rw [he81]; exact hX.b hB1 hB2 (k := Int.toNat (b : Int)) (by omega) hr80
        have hP : va_P D vwCl (xw (13 + 2 * (b + 1)) ad80 en81) H := by rw [show 13 + 2 * (b + 1) = 13 + 2 * b + 2 by omega]; exact hP
        have hD : xD (xA 1 ad sz) (13 + 2 * (b + 1)) ad80 := by rw [show 13 + 2 * (b + 1) = 13 + 2 * b + 2 by omega]; exact hD
        exact x_ce (by omega) (by omega) (ih (b + 1) ad80 en81 _ _ (by omega) (by omega) ha0 hX hP hD hS ls (lv_sub hl [1, 0] rfl))
  have hX : XI cA ad54 en60 0 0 0 0 := ⟨ho60, ⟨_, hk63, fun b hb => absurd hb (Nat.not_lt_zero _)⟩, ⟨_, hk64, fun b hb => absurd hb (Nat.not_lt_zero _)⟩, ⟨_, hk65, fun b hb => absurd hb (Nat.not_lt_zero _)⟩, hr24, hr38.to rfl (fun t ht => absurd ht (Nat.not_lt_zero _)), hr54, fun b hb => absurd hb (Nat.not_lt_zero _), fun b hb => absurd hb (Nat.not_lt_zero _), fun b hb => absurd hb (Nat.not_lt_zero _)⟩
  exact x_ce (by omega) (by omega) (L64 _ 0 ad54 en60 _ _ (Nat.lt_succ_self _) (Nat.zero_le _) hG1 hX hP hD hS ls (lv_sub hl [1, 0] rfl))
