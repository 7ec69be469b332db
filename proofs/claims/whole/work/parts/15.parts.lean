/-! how a text falls into parts -/
def sp_spl (h : Nat → Int) (z lim : Int) : Nat → Nat × Nat × (Nat → Nat) × (Nat → Nat)
  | 0 => (0, 0, fun _ => 0, fun _ => 0)
  | t + 1 => if h t = z ∧ (lim ≤ 0 ∨ ((sp_spl h z lim t).1 : Int) < lim - 1) then ((sp_spl h z lim t).1 + 1, t + 1, sp_up (sp_spl h z lim t).2.2.1 (sp_spl h z lim t).1 (sp_spl h z lim t).2.1, sp_up (sp_spl h z lim t).2.2.2 (sp_spl h z lim t).1 t) else sp_spl h z lim t
theorem sp_spl_t {h : Nat → Int} {z lim : Int} {t pn fr : Nat} {ps pe : Nat → Nat} (e : sp_spl h z lim t = (pn, fr, ps, pe)) (h1 : h t = z) (h2 : lim ≤ 0 ∨ (pn : Int) < lim - 1) : sp_spl h z lim (t + 1) = (pn + 1, t + 1, sp_up ps pn fr, sp_up pe pn t) := by
  rw [sp_spl, e]
  exact if_pos ⟨h1, h2⟩
theorem sp_spl_f {h : Nat → Int} {z lim : Int} {t pn fr : Nat} {ps pe : Nat → Nat} (e : sp_spl h z lim t = (pn, fr, ps, pe)) (h1 : ¬ (h t = z ∧ (lim ≤ 0 ∨ (pn : Int) < lim - 1))) : sp_spl h z lim (t + 1) = (pn, fr, ps, pe) := by
  rw [sp_spl, e]
  exact if_neg h1
def sp_I (t pn fr : Nat) (ps pe : Nat → Nat) : Prop := pn ≤ t ∧ fr ≤ t ∧ (pn = 0 → fr = 0) ∧ (∀ j : Nat, j + 1 = pn → fr = pe j + 1) ∧ (∀ j : Nat, j < pn → ps j ≤ pe j ∧ pe j < t) ∧ (0 < pn → ps 0 = 0) ∧ ∀ j : Nat, j + 1 < pn → ps (j + 1) = pe j + 1
theorem sp_I_add {t pn fr : Nat} {ps pe : Nat → Nat} (I : sp_I t pn fr ps pe) : sp_I (t + 1) (pn + 1) (t + 1) (sp_up ps pn fr) (sp_up pe pn t) := by
  obtain ⟨i1, i2, i3, i4, i5, i6, i7⟩ := I
  refine ⟨by omega, by omega, by omega, fun j hj => ?_, fun j hj => ?_, fun _ => ?_, fun j hj => ?_⟩
  · rw [show j = pn by omega, sp_up_s]
  · by_cases q : j = pn
    · subst q
      rw [sp_up_s, sp_up_s]
      omega
    · rw [sp_up_n _ _ q, sp_up_n _ _ q]
      have := i5 j (by omega)
      omega
  · by_cases q : 0 = pn
    · subst q
      rw [sp_up_s]
      exact i3 rfl
    · rw [sp_up_n _ _ q]
      exact i6 (by omega)
  · by_cases q : j + 1 = pn
    · rw [q, sp_up_s, sp_up_n _ _ (by omega)]
      exact i4 j q
    · rw [sp_up_n _ _ q, sp_up_n _ _ (by omega)]
      exact i7 j (by omega)
theorem sp_spl_ok {h : Nat → Int} {z lim : Int} : ∀ {t pn fr : Nat} {ps pe : Nat → Nat}, sp_spl h z lim t = (pn, fr, ps, pe) → sp_I t pn fr ps pe := by
  intro t
  induction t with
  | zero =>
    intro pn fr ps pe e
    rw [sp_spl] at e
    cases e
    exact ⟨Nat.le_refl _, Nat.le_refl _, fun _ => rfl, fun j hj => absurd hj (by omega), fun j hj => absurd hj (by omega), fun hj => absurd hj (by omega), fun j hj => absurd hj (by omega)⟩
  | succ t ih =>
    intro pn fr ps pe e
    have I := ih (pn := (sp_spl h z lim t).1) (fr := (sp_spl h z lim t).2.1) (ps := (sp_spl h z lim t).2.2.1) (pe := (sp_spl h z lim t).2.2.2) rfl
    rw [sp_spl] at e
    by_cases q : h t = z ∧ (lim ≤ 0 ∨ ((sp_spl h z lim t).1 : Int) < lim - 1)
    · rw [if_pos q] at e
      cases e
      exact sp_I_add I
    · rw [if_neg q] at e
      rw [e] at I
      have I : sp_I t pn fr ps pe := I
      obtain ⟨i1, i2, i3, i4, i5, i6, i7⟩ := I
      exact ⟨by omega, by omega, i3, i4, fun j hj => ⟨(i5 j hj).1, by have := (i5 j hj).2; omega⟩, i6, i7⟩
def sp_fin (h : Nat → Int) (k : Nat) (lim : Int) (q : Nat × Nat × (Nat → Nat) × (Nat → Nat)) : xPts :=
  (if lim = 0 ∧ 0 < q.1 then sp_drop (sp_up q.2.2.1 q.1 q.2.1) (sp_up q.2.2.2 q.1 k) (q.1 + 1) else q.1 + 1, sp_up q.2.2.1 q.1 q.2.1, sp_up q.2.2.2 q.1 k, h)
def sp_split (h : Nat → Int) (k : Nat) (z lim : Int) : xPts := sp_fin h k lim (sp_spl h z lim k)
/-- parts as they may be -/
def sp_pok (k : Nat) (P : xPts) : Prop := P.1 ≤ k + 1 ∧ (∀ j : Nat, j < P.1 → P.2.1 j ≤ P.2.2.1 j ∧ P.2.2.1 j ≤ k) ∧ (0 < P.1 → P.2.1 0 = 0) ∧ ∀ j : Nat, j + 1 < P.1 → P.2.1 (j + 1) = P.2.2.1 j + 1
theorem sp_split_ok (h : Nat → Int) (k : Nat) (z lim : Int) : sp_pok k (sp_split h k z lim) := by
  have I := sp_I_add (sp_spl_ok (h := h) (z := z) (lim := lim) (t := k) (pn := (sp_spl h z lim k).1) (fr := (sp_spl h z lim k).2.1) (ps := (sp_spl h z lim k).2.2.1) (pe := (sp_spl h z lim k).2.2.2) rfl)
  obtain ⟨i1, i2, i3, i4, i5, i6, i7⟩ := I
  have hle : (sp_split h k z lim).1 ≤ (sp_spl h z lim k).1 + 1 := by
    show (if lim = 0 ∧ 0 < (sp_spl h z lim k).1 then _ else _) ≤ _
    split
    · exact sp_drop_le _ _ _
    · exact Nat.le_refl _
  exact ⟨by omega, fun j hj => ⟨(i5 j (by omega)).1, by have := (i5 j (by omega)).2; show sp_up _ _ _ _ ≤ k; omega⟩, fun hj => i6 (by omega), fun j hj => i7 j (by omega)⟩
theorem XP0.c0 {cA : Nat → ClassId} {ad : Nat → Nat} {en : Nat → va_E} {ps pe ps' pe' : Nat → Nat} (h : XP0 cA ad en 0 ps pe) : XP0 cA ad en 0 ps' pe' := by
  obtain ⟨h1, ⟨g, h2, h3⟩, ⟨g2, h4, h5⟩, h6⟩ := h
  exact ⟨h1, ⟨g, h2, fun k hk => absurd hk (Nat.not_lt_zero _)⟩, ⟨g2, h4, fun k hk => absurd hk (Nat.not_lt_zero _)⟩, h6⟩
theorem XP.of0 {cA : Nat → ClassId} {ad : Nat → Nat} {en : Nat → va_E} {P : xPts} {k : Nat} (h : XP0 cA ad en P.1 P.2.1 P.2.2.1) (hr : XR cA ad en 5 k P.2.2.2) (ho : sp_pok k P) : XP cA ad en P := by
  obtain ⟨h1, h2, h3, h4⟩ := h
  exact ⟨h1, ⟨k, hr, fun j hj => (ho.2.1 j hj).2⟩, h2, h3, h4, fun j hj => (ho.2.1 j hj).1, ho.2.2.1, ho.2.2.2⟩

set_option maxRecDepth 20000 in
theorem c_X1_fall (l : Launch) (D : va_G) (cA : Nat → ClassId) (n : Nat) (ad : Nat → Nat) (en : Nat → va_E) (sz : Nat) {P : xPts} (hn : 9 ≤ n) (hXP : XP cA ad en P) {j k : Nat} {h : Nat → Int} (hj : j + 1 < n) (hq : XR cA ad en j k h) (hj9 : 9 ≤ j) (z1 z2 : Int) (hz1 : -2147483648 ≤ z1 ∧ z1 ≤ 2147483647) (hz2 : -2147483648 ≤ z2 ∧ z2 ≤ 2147483647) : Met l yX1_fall (Cond.code yX1_fall cX1_fall 6 none :: xU) (xrm 3 63) (va_Pc [.ref (ad 4), .ref (ad j), .int (xI z1), .int (xI z2)] (xM D cA n ad en sz)) (va_Qv (fun u => XP cA ad u (sp_split h k z1 z2) ∧ xO 4 9 en u) (xE D n ad) (xA n ad sz)) 0 0 (xA n ad sz) := by
  refine xmet (by decide) (Nat.le_of_ble_eq_true rfl) (fun p e s mm args below meth c ls hx hb hrt hml hown hts hlocks hname hB hl => ?_)
  obtain ⟨⟨hP, hK, hN⟩, hsz, hDt⟩ := hB
  have hD : xD (xA n ad sz) n ad := xD_self hDt sz
  have hA : ∀ q : Nat, s.heap.size ≤ q → xA n ad sz q := fun q h => Or.inr (by rw [← hsz]; exact h)
  have hS : va_S (xA n ad sz) s.heap s.heap [] := va_S.rf
  have hown : s.vm.findClass RX1 = some mm.cls := hown
  have hl : lv_has ls 6 [(0, .ref (ad 4)), (1, .ref (ad j)), (2, .int (xI z1)), (3, .int (xI z2))] := hl
  have hp0 := hXP.to0
  obtain ⟨wn, hw, -⟩ := hXP.2.1
  have hm2 := hq.2.2.1
  have hwn := hw.2.2.1
  refine lv_aload_n hx hb dX1_fall_0 rfl (lv_at hl 0 rfl) ?_
  refine x_get (T := TX1) (N := 4) hx hb hts uX1 hown hK hP (i := 4) (by omega) hp0.1 rfl 0 (by decide) u_fl_RX1_12 rfl dX1_fall_1 ?_
  refine lv_aload_n hx hb dX1_fall_4 rfl (lv_at hl 1 rfl) ?_
  refine x_iconst hx hb dX1_fall_5 ?_
  refine lv_aload_n hx hb dX1_fall_6 rfl (lv_at hl 1 rfl) ?_
  refine x_getn (T := TX2) (N := 2) hx hb hts uX2 hown hN hK hP (i := j) (by omega) hq.1 rfl 1 (by decide) (by simp only [xNest, List.mem_cons]; exact Or.inr (Or.inr (Or.inl rfl))) rfl dX1_fall_7 ?_
  refine xm_i (i := 5) (As := [.ref (ad j), .int (xI 0), .int (xI (k : Int))]) (rest := []) ⟨hx, hb, hml, hown, hts⟩ hl.1 (c_X2_copy l D cA n ad en _ (by omega) hw hj hq (by omega) 0 (k : Int) (by omega) (by omega)) k_X2_copy u_ml_RX1_36 hK hN hP (by omega) hw.1 rfl rfl rfl rfl (Nat.le_of_ble_eq_true rfl) ⟨Nat.le_of_ble_eq_true rfl, Nat.le_of_ble_eq_true rfl⟩ ⟨Nat.le_of_ble_eq_true rfl, Nat.le_of_ble_eq_true rfl⟩ dX1_fall_10 hD hS hA (fun r1 en1 H locs hp1 hP hS => ?_)
  rcases hp1 with ⟨hsp, hrv, hx1, ho⟩ | ⟨hsp, hrv, hu⟩
  · subst hrv
    have hw := hx1.to (m' := k) (f' := h) (by omega) (fun t _ => by rw [show Int.toNat 0 + t = t from Nat.zero_add t])
    have hp0 := hp0.ko ho (by omega)
    have hq := hq.ko ho (by omega)
    refine lv_pop hx hb dX1_fall_13 rfl ?_
    refine lv_aload_n hx hb dX1_fall_14 rfl (lv_at hl 0 rfl) ?_
    refine x_iconst hx hb dX1_fall_15 ?_
    refine x_put (T := TX1) (N := 4) (ty := .int) hx hb hts uX1 tyX1 tyX1_ok nmX1 hown hK hP hD hS (i := 4) (by omega) hp0.1 rfl 3 (by decide) u_fl_RX1_25 rfl (by decide +kernel) rfl rfl (by show 3 < 4; decide) dX1_fall_16 (fun H locs hP hS => ?_)
    have hP : va_P D vwCl (xw n ad (va_up en1 4 (.inr (1, [.ref (ad 5), .ref (ad 7), .ref (ad 8), .int (xI 0)])))) H := hP
    obtain ⟨en2, he2⟩ : ∃ z, z = va_up en1 4 (.inr (1, [.ref (ad 5), .ref (ad 7), .ref (ad 8), .int (xI 0)])) := ⟨_, rfl⟩
    rw [← he2] at hP
    have ho2 : en2 4 = (.inr (1, [.ref (ad 5), .ref (ad 7), .ref (ad 8), .int (xI 0)])) := by rw [he2, va_up_self]
    have hk3 := (show en2 5 = en1 5 from by rw [he2, va_up_ne _ _ (by omega)]).trans hw.1
    have hk4 := (show en2 j = en1 j from by rw [he2, va_up_ne _ _ (by omega)]).trans hq.1
    have ho1 : xO 4 5 en1 en2 := by rw [he2]; exact xO.rf.up (by omega) (by omega)
    have hp0 : XP0 cA ad en2 0 (fun _ => 0) (fun _ => 0) := by rw [he2]; exact (hp0.sz (pn' := 0) rfl (Nat.zero_le _)).c0
    have hw := hw.ko ho1 (by omega)
    have hq := hq.ko ho1 (by omega)
    have ho : xO 4 9 en en2 := (ho.mo (by omega) (by omega)).tr (ho1.mo (by omega) (by omega))
    refine x_iconst hx hb dX1_fall_19 ?_
    refine lv_istore (lv' := [(4, .int (xI 0)), (0, .ref (ad 4)), (1, .ref (ad j)), (2, .int (xI z1)), (3, .int (xI z2))]) hx hb dX1_fall_20 hl (by decide) rfl (fun ls hl => ?_)
    refine x_iconst hx hb dX1_fall_22 ?_
    refine lv_istore (lv' := [(5, .int (xI 0)), (4, .int (xI 0)), (0, .ref (ad 4)), (1, .ref (ad j)), (2, .int (xI z1)), (3, .int (xI z2))]) hx hb dX1_fall_23 hl (by decide) rfl (fun ls hl => ?_)
    have L25 : ∀ (nn : Nat) (t : Nat) (fr : Nat) (pn : Nat) (ps : Nat → Nat) (pe : Nat → Nat) (ew25 : Nat → va_E) (H : Heap) (locs : List Loc), (t ≤ k) → (sp_spl h z1 z2 t = (pn, fr, ps, pe)) → (k - t) < nn → (XP0 cA ad ew25 pn ps pe) → (XR cA ad ew25 5 k h) → (XR cA ad ew25 j k h) → (xO 4 9 en ew25) → va_P D vwCl (xw n ad ew25) H → va_S (xA n ad sz) s.heap H locs → ∀ ls : Array Slot, lv_has ls 6 [(0, .ref (ad 4)), (2, .int (xI z1)), (3, .int (xI z2)), (4, .int (xI (fr : Int))), (5, .int (xI (t : Int)))] → W p l e (xrm 3 63) s mm args below meth c H locs 0 0 (MQ below (va_Qv (fun u => XP cA ad u (sp_split h k z1 z2) ∧ xO 4 9 en u) (xE D n ad) (xA n ad sz)) args s 0 0 (xA n ad sz)) (F0 mm 25 ls []) := by
      intro nn
      induction nn with
      | zero =>
        intro t fr pn ps pe ew25 H locs ht hsp hmm hp0 hw hq ho hP hS ls hl
        exact absurd hmm (Nat.not_lt_zero _)
      | succ nn ih =>
        intro t fr pn ps pe ew25 H locs ht hsp hmm hp0 hw hq ho hP hS ls hl
        have hI := sp_spl_ok hsp
        have hI1 := hI.1
        have hI3 := hI.2.1
        have hpn := hp0.2.2.2
        refine lv_iload hx hb dX1_fall_25 (lv_at hl 4 rfl) ?_
        refine lv_aload_n hx hb dX1_fall_27 rfl (lv_at hl 0 rfl) ?_
        refine x_get (T := TX1) (N := 4) hx hb hts uX1 hown hK hP (i := 4) (by omega) hp0.1 rfl 0 (by decide) u_fl_RX1_12 rfl dX1_fall_28 ?_
        refine x_getn (T := TX2) (N := 2) hx hb hts uX2 hown hN hK hP (i := 5) (by omega) hw.1 rfl 1 (by decide) (by simp only [xNest, List.mem_cons]; exact Or.inr (Or.inr (Or.inl rfl))) rfl dX1_fall_31 ?_
        refine x_icmp_ge (tgt := 78) hx hb dX1_fall_34 (by decide) (by omega) (fun c_34 => ?_) (fun c_34 => ?_)
        · refine lv_aload_n hx hb dX1_fall_78 rfl (lv_at hl 0 rfl) ?_
          refine lv_iload hx hb dX1_fall_79 (lv_at hl 3 rfl) ?_
          refine lv_aload_n hx hb dX1_fall_81 rfl (lv_at hl 0 rfl) ?_
          refine x_get (T := TX1) (N := 4) hx hb hts uX1 hown hK hP (i := 4) (by omega) hp0.1 rfl 0 (by decide) u_fl_RX1_12 rfl dX1_fall_82 ?_
          refine x_getn (T := TX2) (N := 2) hx hb hts uX2 hown hN hK hP (i := 5) (by omega) hw.1 rfl 1 (by decide) (by simp only [xNest, List.mem_cons]; exact Or.inr (Or.inr (Or.inl rfl))) rfl dX1_fall_85 ?_
          refine xm_v (i := 4) (As := [.int (xI (fr : Int)), .int (xI (k : Int))]) (rest := []) ⟨hx, hb, hml, hown, hts⟩ hl.1 (c_X1_addPart l D cA n ad ew25 _ (by omega) hp0 (by omega) fr k (by omega) (by omega)) k_X1_addPart u_ml_RX1_47 hK hN hP (by omega) hp0.1 rfl rfl rfl rfl (Nat.le_of_ble_eq_true rfl) ⟨Nat.le_of_ble_eq_true rfl, Nat.le_of_ble_eq_true rfl⟩ ⟨Nat.le_of_ble_eq_true rfl, Nat.le_of_ble_eq_true rfl⟩ dX1_fall_88 hD hS hA (fun en5 H locs hp5 hP hS => ?_)
          obtain ⟨hp0, hXQ⟩ := hp5
          have ho2 : xO 4 9 ew25 en5 := fun q hq9 => hXQ q (by omega) (by omega) (by omega)
          have hw := hw.kp (hXQ 5 (by omega) (by omega) (by omega)) (hXQ 6 (by omega) (by omega) (by omega))
          have hq := hq.ko ho2 (by omega)
          have ho := ho.tr ho2
          have htk : t = k := by omega
          have hI2 := sp_I_add hI
          rw [htk] at hI2
          refine lv_iload_n hx hb dX1_fall_91 rfl (lv_at hl 2 rfl) ?_
          refine x_if_ne (tgt := 107) hx hb dX1_fall_92 (by decide) (by omega) (fun c_92 => ?_) (fun c_92 => ?_)
          · have e1 : sp_split h k z1 z2 = sp_fin h k z2 (pn, fr, ps, pe) := by unfold sp_split; rw [← hsp, show t = k by omega]
            have e2 : (sp_fin h k z2 (pn, fr, ps, pe)).1 = pn + 1 := by show (if z2 = 0 ∧ 0 < pn then _ else _) = _; rw [if_neg (by omega)]
            have hok := sp_split_ok h k z1 z2
            rw [e1] at hok ⊢
            exact xe_v hx hb hrt hlocks hP hS (⟨XP.of0 (k := k) (by rw [e2]; exact hp0) hw hok, ho⟩) dX1_fall_107
          · refine lv_aload_n hx hb dX1_fall_95 rfl (lv_at hl 0 rfl) ?_
            refine x_get (T := TX1) (N := 4) hx hb hts uX1 hown hK hP (i := 4) (by omega) hp0.1 rfl 3 (by decide) u_fl_RX1_25 rfl dX1_fall_96 ?_
            refine x_iconst hx hb dX1_fall_99 ?_
            refine x_icmp_le (tgt := 107) hx hb dX1_fall_100 (by decide) (by omega) (fun c_100 => ?_) (fun c_100 => ?_)
            · have e1 : sp_split h k z1 z2 = sp_fin h k z2 (pn, fr, ps, pe) := by unfold sp_split; rw [← hsp, show t = k by omega]
              have e2 : (sp_fin h k z2 (pn, fr, ps, pe)).1 = pn + 1 := by show (if z2 = 0 ∧ 0 < pn then _ else _) = _; rw [if_neg (by omega)]
              have hok := sp_split_ok h k z1 z2
              rw [e1] at hok ⊢
              exact xe_v hx hb hrt hlocks hP hS (⟨XP.of0 (k := k) (by rw [e2]; exact hp0) hw hok, ho⟩) dX1_fall_107
            · refine lv_aload_n hx hb dX1_fall_103 rfl (lv_at hl 0 rfl) ?_
              refine xm_v (i := 4) (As := []) (rest := []) ⟨hx, hb, hml, hown, hts⟩ hl.1 (c_X1_dropEmptyEnd l D cA n ad en5 _ (by omega) hp0 (fun q hq9 => by have := hI2.2.2.2.2.1 q hq9; omega) (fun q hq9 => by have := hI2.2.2.2.2.1 q hq9; omega)) k_X1_dropEmptyEnd u_ml_RX1_51 hK hN hP (by omega) hp0.1 rfl rfl rfl rfl (Nat.le_of_ble_eq_true rfl) ⟨Nat.le_of_ble_eq_true rfl, Nat.le_of_ble_eq_true rfl⟩ ⟨Nat.le_of_ble_eq_true rfl, Nat.le_of_ble_eq_true rfl⟩ dX1_fall_104 hD hS hA (fun en6 H locs hp6 hP hS => ?_)
              obtain ⟨hp0, ho3⟩ := hp6
              have hw := hw.ko ho3 (by omega)
              have ho := ho.tr (ho3.mo (by omega) (by omega))
              have e1 : sp_split h k z1 z2 = sp_fin h k z2 (pn, fr, ps, pe) := by unfold sp_split; rw [← hsp, show t = k by omega]
              have e2 : (sp_fin h k z2 (pn, fr, ps, pe)).1 = sp_drop (sp_up ps pn fr) (sp_up pe pn k) (pn + 1) := by show (if z2 = 0 ∧ 0 < pn then _ else _) = _; rw [if_pos ⟨by omega, by omega⟩]
              have hok := sp_split_ok h k z1 z2
              rw [e1] at hok ⊢
              exact xe_v hx hb hrt hlocks hP hS (⟨XP.of0 (k := k) (by rw [e2]; exact hp0) hw hok, ho⟩) dX1_fall_107
        · refine lv_aload_n hx hb dX1_fall_37 rfl (lv_at hl 0 rfl) ?_
          refine x_get (T := TX1) (N := 4) hx hb hts uX1 hown hK hP (i := 4) (by omega) hp0.1 rfl 0 (by decide) u_fl_RX1_12 rfl dX1_fall_38 ?_
          refine lv_iload hx hb dX1_fall_41 (lv_at hl 4 rfl) ?_
          refine xv_i (i := 5) (As := [.int (xI (t : Int))]) (rest := []) ⟨hx, hb, hml, hown, hts⟩ hl.1 (c_X2_signThere l D cA n ad ew25 (by omega) hw (t : Int) (by omega)) k_X2_signThere u_ml_RX1_40 hK hN hP (by omega) hw.1 rfl rfl rfl rfl (Nat.le_of_ble_eq_true rfl) ⟨Nat.le_of_ble_eq_true rfl, Nat.le_of_ble_eq_true rfl⟩ ⟨Nat.le_of_ble_eq_true rfl, Nat.le_of_ble_eq_true rfl⟩ dX1_fall_43 ?_
          refine lv_iload_n hx hb dX1_fall_46 rfl (lv_at hl 1 rfl) ?_
          refine x_icmp_ne (tgt := 72) hx hb dX1_fall_47 (by decide) (by have := hw.2.2.2 (Int.toNat (t : Int)) (by omega); omega) (fun c_47 => ?_) (fun c_47 => ?_)
          · refine x_iinc (lv' := [(5, .int (xI ((t : Int) + 1))), (0, .ref (ad 4)), (2, .int (xI z1)), (3, .int (xI z2)), (4, .int (xI (fr : Int)))]) (k := 4) hx hb dX1_fall_72 hl rfl (by decide) rfl (fun ls hl => ?_)
            refine lv_goto (tgt := 25) hx hb dX1_fall_75 (by decide) ?_
            exact ih (t + 1) _ _ _ _ ew25 _ _ (by omega) (sp_spl_f hsp (fun q => c_47 q.1)) (by omega) hp0 hw hq ho hP hS ls (lv_sub hl [1, 2, 3, 4, 0] rfl)
          · refine lv_aload_n hx hb dX1_fall_50 rfl (lv_at hl 0 rfl) ?_
            refine lv_iload_n hx hb dX1_fall_51 rfl (lv_at hl 2 rfl) ?_
            refine xv_i (i := 4) (As := [.int (xI z2)]) (rest := []) ⟨hx, hb, hml, hown, hts⟩ hl.1 (c_X1_mayPart l D cA n ad ew25 (by omega) hp0 z2 (by omega)) k_X1_mayPart u_ml_RX1_44 hK hN hP (by omega) hp0.1 rfl rfl rfl rfl (Nat.le_of_ble_eq_true rfl) ⟨Nat.le_of_ble_eq_true rfl, Nat.le_of_ble_eq_true rfl⟩ ⟨Nat.le_of_ble_eq_true rfl, Nat.le_of_ble_eq_true rfl⟩ dX1_fall_52 ?_
            refine x_ifb_eq (tgt := 72) hx hb dX1_fall_55 (by decide)  (fun c_55 => ?_) (fun c_55 => ?_)
            · refine x_iinc (lv' := [(5, .int (xI ((t : Int) + 1))), (0, .ref (ad 4)), (2, .int (xI z1)), (3, .int (xI z2)), (4, .int (xI (fr : Int)))]) (k := 4) hx hb dX1_fall_72 hl rfl (by decide) rfl (fun ls hl => ?_)
              refine lv_goto (tgt := 25) hx hb dX1_fall_75 (by decide) ?_
              exact ih (t + 1) _ _ _ _ ew25 _ _ (by omega) (sp_spl_f hsp (fun q => c_55 q.2)) (by omega) hp0 hw hq ho hP hS ls (lv_sub hl [1, 2, 3, 4, 0] rfl)
            · refine lv_aload_n hx hb dX1_fall_58 rfl (lv_at hl 0 rfl) ?_
              refine lv_iload hx hb dX1_fall_59 (lv_at hl 3 rfl) ?_
              refine lv_iload hx hb dX1_fall_61 (lv_at hl 4 rfl) ?_
              refine xm_v (i := 4) (As := [.int (xI (fr : Int)), .int (xI (t : Int))]) (rest := []) ⟨hx, hb, hml, hown, hts⟩ hl.1 (c_X1_addPart l D cA n ad ew25 _ (by omega) hp0 (by omega) fr t (by omega) (by omega)) k_X1_addPart u_ml_RX1_47 hK hN hP (by omega) hp0.1 rfl rfl rfl rfl (Nat.le_of_ble_eq_true rfl) ⟨Nat.le_of_ble_eq_true rfl, Nat.le_of_ble_eq_true rfl⟩ ⟨Nat.le_of_ble_eq_true rfl, Nat.le_of_ble_eq_true rfl⟩ dX1_fall_63 hD hS hA (fun en7 H locs hp7 hP hS => ?_)
              obtain ⟨hp0, hXQ⟩ := hp7
              have ho2 : xO 4 9 ew25 en7 := fun q hq9 => hXQ q (by omega) (by omega) (by omega)
              have hw := hw.kp (hXQ 5 (by omega) (by omega) (by omega)) (hXQ 6 (by omega) (by omega) (by omega))
              have hq := hq.ko ho2 (by omega)
              have ho := ho.tr ho2
              refine lv_iload hx hb dX1_fall_66 (lv_at hl 4 rfl) ?_
              refine x_iconst hx hb dX1_fall_68 ?_
              refine x_iadd hx hb dX1_fall_69 ?_
              refine lv_istore (lv' := [(4, .int (xI ((t : Int) + 1))), (0, .ref (ad 4)), (2, .int (xI z1)), (3, .int (xI z2)), (5, .int (xI (t : Int)))]) hx hb dX1_fall_70 hl (by decide) rfl (fun ls hl => ?_)
              refine x_iinc (lv' := [(5, .int (xI ((t : Int) + 1))), (4, .int (xI ((t : Int) + 1))), (0, .ref (ad 4)), (2, .int (xI z1)), (3, .int (xI z2))]) (k := 4) hx hb dX1_fall_72 hl rfl (by decide) rfl (fun ls hl => ?_)
              refine lv_goto (tgt := 25) hx hb dX1_fall_75 (by decide) ?_
              exact ih (t + 1) _ _ _ _ en7 _ _ (by omega) (sp_spl_t hsp c_47 c_55) (by omega) hp0 hw hq ho hP hS ls (lv_sub hl [2, 3, 4, 1, 0] rfl)
    exact L25 _ 0 0 0 (fun _ => 0) (fun _ => 0) en2 _ _ (Nat.zero_le _) (by rw [sp_spl]) (Nat.lt_succ_self _) hp0 hw hq ho hP hS ls (lv_sub hl [2, 4, 5, 1, 0] rfl)
  · exact absurd (by omega) hsp
