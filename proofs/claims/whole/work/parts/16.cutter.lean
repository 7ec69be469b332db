/-! cutters -/
theorem sp_while_n {P : Int → Prop} {a b : Int} (h : a < b → ¬ P a) (hab : a ≤ b) : sp_while P a b = a := by
  by_cases q : a < b
  · exact sp_while_f q (h q)
  · exact sp_while_e (by omega)
noncomputable def sp_ts (G : Prop) (S : Int → Prop) (f : Nat → Int) (m a : Int) : Int := sp_while (fun q => ¬ G ∧ S (f q.toNat)) a m
noncomputable def sp_te (S : Int → Prop) (f : Nat → Int) (m a : Int) : Int := @ite Int (S (f a.toNat)) (Classical.propDecidable _) (a + 1) (sp_while (fun q => ¬ S (f q.toNat)) (a + 1) m)
theorem sp_te_of {S : Int → Prop} {f : Nat → Int} {m a b : Int} (h1 : S (f a.toNat) → b = a + 1) (h2 : ¬ S (f a.toNat) → sp_while (fun q => ¬ S (f q.toNat)) (a + 1) m = b) : b = sp_te S f m a := by
  unfold sp_te
  by_cases q : S (f a.toNat)
  · rw [if_pos q]; exact h1 q
  · rw [if_neg q]; exact (h2 q).symm
theorem sp_ts_b {G : Prop} {S : Int → Prop} {f : Nat → Int} {m a : Int} (h : a ≤ m) : a ≤ sp_ts G S f m a ∧ sp_ts G S f m a ≤ m := sp_while_b h
theorem sp_te_b {S : Int → Prop} {f : Nat → Int} {m a : Int} (h : a < m) : a + 1 ≤ sp_te S f m a ∧ sp_te S f m a ≤ m := by
  unfold sp_te
  by_cases q : S (f a.toNat)
  · rw [if_pos q]; omega
  · rw [if_neg q]; exact sp_while_b (by omega)
noncomputable def sp_tl (G : Prop) (S : Int → Prop) (f : Nat → Int) (m : Int) : Nat → Int → Int
  | 0, _ => 0
  | k + 1, a => if a < m then 1 + sp_tl G S f m k (sp_ts G S f m (sp_te S f m a)) else 0
noncomputable def sp_left (G : Prop) (S : Int → Prop) (f : Nat → Int) (m a : Int) : Int := sp_tl G S f m 201 (sp_ts G S f m a)
theorem sp_tl_t {G : Prop} {S : Int → Prop} {f : Nat → Int} {m a c : Int} (hc : 0 ≤ c ∧ c ≤ 200) (h : a < m) : c + sp_tl G S f m (201 - c).toNat a = c + 1 + sp_tl G S f m (201 - (c + 1)).toNat (sp_ts G S f m (sp_te S f m a)) := by
  rw [show (201 - c).toNat = (201 - (c + 1)).toNat + 1 by omega, sp_tl, if_pos h]
  omega
theorem sp_tl_e {G : Prop} {S : Int → Prop} {f : Nat → Int} {m a : Int} (k : Nat) (h : m ≤ a) : sp_tl G S f m k a = 0 := by
  cases k with
  | zero => rfl
  | succ k => rw [sp_tl, if_neg (by omega)]
def sp_sep (h : Nat → Int) (k : Nat) : Int → Prop := fun z => ∃ t : Nat, t < k ∧ h t = z
/-- a cutter's cells, whatever its separators -/
def XKw (cA : Nat → ClassId) (ad : Nat → Nat) (en : Nat → va_E) (i m : Nat) (f : Nat → Int) (G : Prop) (z pl : Int) : Prop :=
  en i = .inr (0, [.ref (ad (i + 1)), .ref (ad (i + 3)), .int (xb G), .int (xI z), .int (xI pl)]) ∧ XR cA ad en (i + 1) m f ∧ ∃ g : Nat → Int32, en (i + 3) = .inl (cA 1, 256, .inl g)
section XKS
variable {cA : Nat → ClassId} {ad : Nat → Nat} {en en' : Nat → va_E} {i m : Nat} {f : Nat → Int} {S : Int → Prop} {G : Prop} {z pl : Int}
theorem XKw.ko {a b : Nat} (h : XKw cA ad en i m f G z pl) (ho : xO a b en en') (hi : i + 3 < a ∨ b ≤ i) : XKw cA ad en' i m f G z pl := by
  obtain ⟨h1, h2, g, h3⟩ := h
  exact ⟨(ho i (by omega)).trans h1, h2.ko ho (by omega), g, (ho _ (by omega)).trans h3⟩
theorem XKw.ar (h : XKw cA ad en i m f G z pl) (g' : Nat → Int32) : XKw cA ad (va_up en (i + 3) (.inl (cA 1, 256, .inl g'))) i m f G z pl := by
  obtain ⟨h1, h2, g, h3⟩ := h
  exact ⟨by rw [va_up_ne _ _ (by omega)]; exact h1, h2.kp (va_up_ne _ _ (by omega)) (va_up_ne _ _ (by omega)), g', va_up_self _ _ _⟩
theorem XKw.rw (h : XKw cA ad en i m f G z pl) {m' : Nat} {f' : Nat → Int} (ho : xO (i + 1) (i + 1 + 2) en en') (hr : XR cA ad en' (i + 1) m' f') : XKw cA ad en' i m' f' G z pl := by
  obtain ⟨h1, h2, g, h3⟩ := h
  exact ⟨(ho i (by omega)).trans h1, hr, g, (ho _ (by omega)).trans h3⟩
theorem XK.st (h : XK cA ad en i m f S G z pl) (G' : Prop) (z' pl' : Int) : XK cA ad (va_up en i (.inr (0, [.ref (ad (i + 1)), .ref (ad (i + 3)), .int (xb G'), .int (xI z'), .int (xI pl')]))) i m f S G' z' pl' := by
  obtain ⟨h1, h2, g, h3, h4⟩ := h
  exact ⟨va_up_self _ _ _, h2.kp (va_up_ne _ _ (by omega)) (va_up_ne _ _ (by omega)), g, by rw [va_up_ne _ _ (by omega)]; exact h3, h4⟩
theorem XK.w (h : XK cA ad en i m f S G z pl) : XKw cA ad en i m f G z pl := ⟨h.1, h.2.1, h.2.2.choose, h.2.2.choose_spec.1⟩
end XKS
theorem XC.any {cA : Nat → ClassId} {ad : Nat → Nat} {en : Nat → va_E} {i : Nat} {o : Option xCut} (h : XC cA ad en i o) : ∃ (m : Nat) (f : Nat → Int) (G : Prop) (z pl : Int), XKw cA ad en i m f G z pl := by
  cases o with
  | none =>
    obtain ⟨G, pl, h1, ⟨m, f, h2⟩, g, h3⟩ := h
    exact ⟨m, f, G, 1, pl, h1, h2, g, h3⟩
  | some q =>
    obtain ⟨h1, h2, h3, g, h4, h5⟩ := h
    exact ⟨_, _, _, _, _, h1, h2, g, h4⟩
theorem XC.k {cA : Nat → ClassId} {ad : Nat → Nat} {en : Nat → va_E} {i : Nat} {q : xCut} (h : XC cA ad en i (some q)) : XK cA ad en i q.1.1 q.1.2 q.2.1 q.2.2.1 0 (q.2.2.2 : Int) ∧ q.2.2.2 ≤ q.1.1 := ⟨⟨h.1, h.2.1, h.2.2.2⟩, h.2.2.1⟩
theorem XC.of {cA : Nat → ClassId} {ad : Nat → Nat} {en : Nat → va_E} {i m p : Nat} {f : Nat → Int} {S : Int → Prop} {G : Prop} {pl : Int} (h : XK cA ad en i m f S G 0 pl) (hp : pl = (p : Int)) (hle : p ≤ m) : XC cA ad en i (some ((m, f), S, G, p)) := by
  subst hp
  exact ⟨h.1, h.2.1, hle, h.2.2⟩
theorem XC.no {cA : Nat → ClassId} {ad : Nat → Nat} {en : Nat → va_E} {i m : Nat} {f : Nat → Int} {S : Int → Prop} {G : Prop} {pl : Int} (h : XK cA ad en i m f S G 1 pl) : XC cA ad en i none := ⟨G, pl, h.1, ⟨m, f, h.2.1⟩, h.2.2.choose, h.2.2.choose_spec.1⟩

set_option maxRecDepth 20000 in
theorem c_X0_separatesAt (l : Launch) (D : va_G) (cA : Nat → ClassId) (n : Nat) (ad : Nat → Nat) (en : Nat → va_E) {i m : Nat} {f : Nat → Int} {S : Int → Prop} {G : Prop} {zz pl : Int} (hi : i + 3 < n) (hk : XK cA ad en i m f S G zz pl) (z1 : Int) (h1 : 0 ≤ z1 ∧ z1 < (m : Int)) : Met l yX0_separatesAt (Cond.code yX0_separatesAt cX0_separatesAt 3 (some .boolean) :: xU) (xrm 2 42) (va_Pc [.ref (ad i), .int (xI z1)] (xB D cA n ad en)) (vp_Si (fun z => z = xb (S (f z1.toNat)))) 0 0 (fun _ => False) := by
  refine xmet (by decide) (Nat.le_of_ble_eq_true rfl) (fun p e s mm args below meth c ls hx hb hrt hml hown hts hlocks hname hB hl => ?_)
  obtain ⟨hP, hK, hN⟩ := hB
  have hl : lv_has ls 3 [(0, .ref (ad i)), (1, .int (xI z1))] := hl
  have hm := hk.2.1.2.2.1
  obtain ⟨g, hg1, hg2⟩ := hk.2.2
  have hs := hk.2.1.2.2.2 z1.toNat (by omega)
  refine lv_aload_n hx hb dX0_separatesAt_0 rfl (lv_at hl 0 rfl) ?_
  refine x_get (T := TX0) (N := 5) hx hb hts uX0 hown hK hP (i := i) (by omega) hk.1 rfl 0 (by decide) u_fl_RX0_12 rfl dX0_separatesAt_1 ?_
  refine lv_iload_n hx hb dX0_separatesAt_4 rfl (lv_at hl 1 rfl) ?_
  refine xv_i (i := i + 1) (As := [.int (xI z1)]) (rest := []) ⟨hx, hb, hml, hown, hts⟩ hl.1 (c_X2_signThere l D cA n ad en (by omega) hk.2.1 z1 (by omega)) k_X2_signThere u_ml_RX0_44 hK hN hP (by omega) hk.2.1.1 rfl rfl rfl rfl (Nat.le_of_ble_eq_true rfl) ⟨Nat.le_of_ble_eq_true rfl, Nat.le_of_ble_eq_true rfl⟩ ⟨Nat.le_of_ble_eq_true rfl, Nat.le_of_ble_eq_true rfl⟩ dX0_separatesAt_5 ?_
  refine lv_istore_n (lv' := [(2, .int (xI (f (Int.toNat z1)))), (0, .ref (ad i)), (1, .int (xI z1))]) hx hb dX0_separatesAt_8 rfl hl (by decide) rfl (fun ls hl => ?_)
  refine lv_iload_n hx hb dX0_separatesAt_9 rfl (lv_at hl 0 rfl) ?_
  refine x_if_lt (tgt := 35) hx hb dX0_separatesAt_10 (by decide) (by omega) (fun c_10 => absurd c_10 (by omega)) (fun c_10 => ?_)
  refine lv_iload_n hx hb dX0_separatesAt_13 rfl (lv_at hl 0 rfl) ?_
  refine lv_aload_n hx hb dX0_separatesAt_14 rfl (lv_at hl 1 rfl) ?_
  refine x_get (T := TX0) (N := 5) hx hb hts uX0 hown hK hP (i := i) (by omega) hk.1 rfl 1 (by decide) u_fl_RX0_18 rfl dX0_separatesAt_15 ?_
  refine x_alen hx hb hK hP (i := i + 3) (by omega) 1 hg1 rfl dX0_separatesAt_18 ?_
  refine x_icmp_ge (tgt := 35) hx hb dX0_separatesAt_19 (by decide) (by omega) (fun c_19 => absurd c_19 (by omega)) (fun c_19 => ?_)
  refine lv_aload_n hx hb dX0_separatesAt_22 rfl (lv_at hl 1 rfl) ?_
  refine x_get (T := TX0) (N := 5) hx hb hts uX0 hown hK hP (i := i) (by omega) hk.1 rfl 1 (by decide) u_fl_RX0_18 rfl dX0_separatesAt_23 ?_
  refine lv_iload_n hx hb dX0_separatesAt_26 rfl (lv_at hl 0 rfl) ?_
  refine x_zld hx hb hK hP (i := i + 3) (by omega) hg1 (p1 := S (f (Int.toNat z1))) (by omega) (by have q9 := hg2 (Int.toNat (f (Int.toNat z1))) (by omega); rw [q9, show ((Int.toNat (f (Int.toNat z1)) : Nat) : Int) = f (Int.toNat z1) by omega]) dX0_separatesAt_27 ?_
  refine x_ifb_eq (tgt := 35) hx hb dX0_separatesAt_28 (by decide)  (fun c_28 => ?_) (fun c_28 => ?_)
  · refine x_iconst hx hb dX0_separatesAt_35 ?_
    exact xr_z hx hb hrt hlocks (xb_0 c_28) dX0_separatesAt_36
  · refine x_iconst hx hb dX0_separatesAt_31 ?_
    refine lv_goto (tgt := 36) hx hb dX0_separatesAt_32 (by decide) ?_
    exact xr_z hx hb hrt hlocks (xb_1 c_28) dX0_separatesAt_36

set_option maxRecDepth 20000 in
theorem c_X0_tokenStart (l : Launch) (D : va_G) (cA : Nat → ClassId) (n : Nat) (ad : Nat → Nat) (en : Nat → va_E) {i m : Nat} {f : Nat → Int} {S : Int → Prop} {G : Prop} {zz pl : Int} (hi : i + 3 < n) (hk : XK cA ad en i m f S G zz pl) (z1 : Int) (h1 : 0 ≤ z1 ∧ z1 ≤ (m : Int)) : Met l yX0_tokenStart (Cond.code yX0_tokenStart cX0_tokenStart 3 (some .int) :: xU) (xrm 3 64) (va_Pc [.ref (ad i), .int (xI z1)] (xB D cA n ad en)) (vp_Si (fun z => z = xI (sp_ts G S f (m : Int) z1))) 0 0 (fun _ => False) := by
  refine xmet (by decide) (Nat.le_of_ble_eq_true rfl) (fun p e s mm args below meth c ls hx hb hrt hml hown hts hlocks hname hB hl => ?_)
  obtain ⟨hP, hK, hN⟩ := hB
  have hl : lv_has ls 3 [(0, .ref (ad i)), (1, .int (xI z1))] := hl
  have hm := hk.2.1.2.2.1
  refine lv_iload_n hx hb dX0_tokenStart_0 rfl (lv_at hl 1 rfl) ?_
  refine lv_istore_n (lv' := [(2, .int (xI z1)), (0, .ref (ad i)), (1, .int (xI z1))]) hx hb dX0_tokenStart_1 rfl hl (by decide) rfl (fun ls hl => ?_)
  have L2 : ∀ (nn : Nat) (a : Int), (z1 ≤ a ∧ a ≤ (m : Int)) → (sp_while (fun q : Int => ¬ G ∧ S (f q.toNat)) a (m : Int) = sp_while (fun q : Int => ¬ G ∧ S (f q.toNat)) z1 (m : Int)) → (((m : Int) - a).toNat) < nn → ∀ ls : Array Slot, lv_has ls 3 [(0, .ref (ad i)), (2, .int (xI a))] → W p l e (xrm 3 64) s mm args below meth c s.heap [] 0 0 (MQ below (vp_Si (fun z => z = xI (sp_ts G S f (m : Int) z1))) args s 0 0 (fun _ => False)) (F0 mm 2 ls []) := by
    intro nn
    induction nn with
    | zero =>
      intro a  ha hF hmm  ls hl
      exact absurd hmm (Nat.not_lt_zero _)
    | succ nn ih =>
      intro a  ha hF hmm  ls hl
      refine lv_aload_n hx hb dX0_tokenStart_2 rfl (lv_at hl 0 rfl) ?_
      refine x_get (T := TX0) (N := 5) hx hb hts uX0 hown hK hP (i := i) (by omega) hk.1 rfl 2 (by decide) u_fl_RX0_38 rfl dX0_tokenStart_3 ?_
      refine x_ifb_ne (tgt := 34) hx hb dX0_tokenStart_6 (by decide)  (fun c_6 => ?_) (fun c_6 => ?_)
      · refine lv_iload_n hx hb dX0_tokenStart_34 rfl (lv_at hl 1 rfl) ?_
        exact xr_i hx hb hrt hlocks (by unfold sp_ts; rw [← hF, sp_while_n (P := (fun q : Int => ¬ G ∧ S (f q.toNat))) (fun _ q => q.1 c_6) (by omega)]) dX0_tokenStart_35
      · refine lv_iload_n hx hb dX0_tokenStart_9 rfl (lv_at hl 1 rfl) ?_
        refine lv_aload_n hx hb dX0_tokenStart_10 rfl (lv_at hl 0 rfl) ?_
        refine x_get (T := TX0) (N := 5) hx hb hts uX0 hown hK hP (i := i) (by omega) hk.1 rfl 0 (by decide) u_fl_RX0_12 rfl dX0_tokenStart_11 ?_
        refine x_getn (T := TX2) (N := 2) hx hb hts uX2 hown hN hK hP (i := i + 1) (by omega) hk.2.1.1 rfl 1 (by decide) (by simp only [xNest, List.mem_cons]; exact Or.inl rfl) rfl dX0_tokenStart_14 ?_
        refine x_icmp_ge (tgt := 34) hx hb dX0_tokenStart_17 (by decide) (by omega) (fun c_17 => ?_) (fun c_17 => ?_)
        · refine lv_iload_n hx hb dX0_tokenStart_34 rfl (lv_at hl 1 rfl) ?_
          exact xr_i hx hb hrt hlocks (by unfold sp_ts; rw [← hF, sp_while_n (P := (fun q : Int => ¬ G ∧ S (f q.toNat))) (fun q => absurd q (by omega)) (by omega)]) dX0_tokenStart_35
        · refine lv_aload_n hx hb dX0_tokenStart_20 rfl (lv_at hl 0 rfl) ?_
          refine lv_iload_n hx hb dX0_tokenStart_21 rfl (lv_at hl 1 rfl) ?_
          refine xv_i (i := i) (As := [.int (xI a)]) (rest := []) ⟨hx, hb, hml, hown, hts⟩ hl.1 (c_X0_separatesAt l D cA n ad en (by omega) hk a (by omega)) k_X0_separatesAt u_ml_RX0_59 hK hN hP (by omega) hk.1 rfl rfl rfl rfl (Nat.le_of_ble_eq_true rfl) ⟨Nat.le_of_ble_eq_true rfl, Nat.le_of_ble_eq_true rfl⟩ ⟨Nat.le_of_ble_eq_true rfl, Nat.le_of_ble_eq_true rfl⟩ dX0_tokenStart_22 ?_
          refine x_ifb_eq (tgt := 34) hx hb dX0_tokenStart_25 (by decide)  (fun c_25 => ?_) (fun c_25 => ?_)
          · refine lv_iload_n hx hb dX0_tokenStart_34 rfl (lv_at hl 1 rfl) ?_
            exact xr_i hx hb hrt hlocks (by unfold sp_ts; rw [← hF, sp_while_n (P := (fun q : Int => ¬ G ∧ S (f q.toNat))) (fun _ q => c_25 q.2) (by omega)]) dX0_tokenStart_35
          · refine x_iinc (lv' := [(2, .int (xI (a + 1))), (0, .ref (ad i))]) (k := 1) hx hb dX0_tokenStart_28 hl rfl (by decide) rfl (fun ls hl => ?_)
            refine lv_goto (tgt := 2) hx hb dX0_tokenStart_31 (by decide) ?_
            exact ih (a + 1) (by omega) ((sp_while_t (P := (fun q : Int => ¬ G ∧ S (f q.toNat))) (by omega) ⟨c_6, c_25⟩).symm.trans hF) (by omega)  ls (lv_sub hl [1, 0] rfl)
  exact L2 _ z1 (by omega) rfl (Nat.lt_succ_self _)  ls (lv_sub hl [1, 0] rfl)

set_option maxRecDepth 20000 in
theorem c_X0_tokenEnd (l : Launch) (D : va_G) (cA : Nat → ClassId) (n : Nat) (ad : Nat → Nat) (en : Nat → va_E) {i m : Nat} {f : Nat → Int} {S : Int → Prop} {G : Prop} {zz pl : Int} (hi : i + 3 < n) (hk : XK cA ad en i m f S G zz pl) (z1 : Int) (h1 : 0 ≤ z1 ∧ z1 < (m : Int)) : Met l yX0_tokenEnd (Cond.code yX0_tokenEnd cX0_tokenEnd 3 (some .int) :: xU) (xrm 3 64) (va_Pc [.ref (ad i), .int (xI z1)] (xB D cA n ad en)) (vp_Si (fun z => z = xI (sp_te S f (m : Int) z1))) 0 0 (fun _ => False) := by
  refine xmet (by decide) (Nat.le_of_ble_eq_true rfl) (fun p e s mm args below meth c ls hx hb hrt hml hown hts hlocks hname hB hl => ?_)
  obtain ⟨hP, hK, hN⟩ := hB
  have hl : lv_has ls 3 [(0, .ref (ad i)), (1, .int (xI z1))] := hl
  have hm := hk.2.1.2.2.1
  refine lv_iload_n hx hb dX0_tokenEnd_0 rfl (lv_at hl 1 rfl) ?_
  refine x_iconst hx hb dX0_tokenEnd_1 ?_
  refine x_iadd hx hb dX0_tokenEnd_2 ?_
  refine lv_istore_n (lv' := [(2, .int (xI (z1 + 1))), (0, .ref (ad i)), (1, .int (xI z1))]) hx hb dX0_tokenEnd_3 rfl hl (by decide) rfl (fun ls hl => ?_)
  have L4 : ∀ (nn : Nat) (a : Int), (z1 + 1 ≤ a ∧ a ≤ (m : Int)) → ((S (f z1.toNat) → a = z1 + 1) ∧ (¬ S (f z1.toNat) → sp_while (fun q : Int => ¬ S (f q.toNat)) (z1 + 1) (m : Int) = sp_while (fun q : Int => ¬ S (f q.toNat)) a (m : Int))) → (((m : Int) - a).toNat) < nn → ∀ ls : Array Slot, lv_has ls 3 [(0, .ref (ad i)), (1, .int (xI z1)), (2, .int (xI a))] → W p l e (xrm 3 64) s mm args below meth c s.heap [] 0 0 (MQ below (vp_Si (fun z => z = xI (sp_te S f (m : Int) z1))) args s 0 0 (fun _ => False)) (F0 mm 4 ls []) := by
    intro nn
    induction nn with
    | zero =>
      intro a  ha hF hmm  ls hl
      exact absurd hmm (Nat.not_lt_zero _)
    | succ nn ih =>
      intro a  ha hF hmm  ls hl
      refine lv_iload_n hx hb dX0_tokenEnd_4 rfl (lv_at hl 2 rfl) ?_
      refine lv_aload_n hx hb dX0_tokenEnd_5 rfl (lv_at hl 0 rfl) ?_
      refine x_get (T := TX0) (N := 5) hx hb hts uX0 hown hK hP (i := i) (by omega) hk.1 rfl 0 (by decide) u_fl_RX0_12 rfl dX0_tokenEnd_6 ?_
      refine x_getn (T := TX2) (N := 2) hx hb hts uX2 hown hN hK hP (i := i + 1) (by omega) hk.2.1.1 rfl 1 (by decide) (by simp only [xNest, List.mem_cons]; exact Or.inl rfl) rfl dX0_tokenEnd_9 ?_
      refine x_icmp_ge (tgt := 37) hx hb dX0_tokenEnd_12 (by decide) (by omega) (fun c_12 => ?_) (fun c_12 => ?_)
      · refine lv_iload_n hx hb dX0_tokenEnd_37 rfl (lv_at hl 2 rfl) ?_
        exact xr_i hx hb hrt hlocks (congrArg xI (sp_te_of hF.1 (fun q => (hF.2 q).trans (sp_while_n (P := (fun q : Int => ¬ S (f q.toNat))) (fun q => absurd q (by omega)) (by omega))))) dX0_tokenEnd_38
      · refine lv_aload_n hx hb dX0_tokenEnd_15 rfl (lv_at hl 0 rfl) ?_
        refine lv_iload_n hx hb dX0_tokenEnd_16 rfl (lv_at hl 1 rfl) ?_
        refine xv_i (i := i) (As := [.int (xI z1)]) (rest := []) ⟨hx, hb, hml, hown, hts⟩ hl.1 (c_X0_separatesAt l D cA n ad en (by omega) hk z1 (by omega)) k_X0_separatesAt u_ml_RX0_59 hK hN hP (by omega) hk.1 rfl rfl rfl rfl (Nat.le_of_ble_eq_true rfl) ⟨Nat.le_of_ble_eq_true rfl, Nat.le_of_ble_eq_true rfl⟩ ⟨Nat.le_of_ble_eq_true rfl, Nat.le_of_ble_eq_true rfl⟩ dX0_tokenEnd_17 ?_
        refine x_ifb_ne (tgt := 37) hx hb dX0_tokenEnd_20 (by decide)  (fun c_20 => ?_) (fun c_20 => ?_)
        · refine lv_iload_n hx hb dX0_tokenEnd_37 rfl (lv_at hl 2 rfl) ?_
          exact xr_i hx hb hrt hlocks (congrArg xI (sp_te_of hF.1 (fun q => (hF.2 q).trans (sp_while_n (P := (fun q : Int => ¬ S (f q.toNat))) (fun _ => absurd c_20 q) (by omega))))) dX0_tokenEnd_38
        · refine lv_aload_n hx hb dX0_tokenEnd_23 rfl (lv_at hl 0 rfl) ?_
          refine lv_iload_n hx hb dX0_tokenEnd_24 rfl (lv_at hl 2 rfl) ?_
          refine xv_i (i := i) (As := [.int (xI a)]) (rest := []) ⟨hx, hb, hml, hown, hts⟩ hl.1 (c_X0_separatesAt l D cA n ad en (by omega) hk a (by omega)) k_X0_separatesAt u_ml_RX0_59 hK hN hP (by omega) hk.1 rfl rfl rfl rfl (Nat.le_of_ble_eq_true rfl) ⟨Nat.le_of_ble_eq_true rfl, Nat.le_of_ble_eq_true rfl⟩ ⟨Nat.le_of_ble_eq_true rfl, Nat.le_of_ble_eq_true rfl⟩ dX0_tokenEnd_25 ?_
          refine x_ifb_ne (tgt := 37) hx hb dX0_tokenEnd_28 (by decide)  (fun c_28 => ?_) (fun c_28 => ?_)
          · refine lv_iload_n hx hb dX0_tokenEnd_37 rfl (lv_at hl 2 rfl) ?_
            exact xr_i hx hb hrt hlocks (congrArg xI (sp_te_of hF.1 (fun q => (hF.2 q).trans (sp_while_n (P := (fun q : Int => ¬ S (f q.toNat))) (fun _ q => q c_28) (by omega))))) dX0_tokenEnd_38
          · refine x_iinc (lv' := [(2, .int (xI (a + 1))), (0, .ref (ad i)), (1, .int (xI z1))]) (k := 2) hx hb dX0_tokenEnd_31 hl rfl (by decide) rfl (fun ls hl => ?_)
            refine lv_goto (tgt := 4) hx hb dX0_tokenEnd_34 (by decide) ?_
            exact ih (a + 1) (by omega) (⟨fun q => absurd q c_20, fun q => (hF.2 q).trans (sp_while_t (P := (fun q : Int => ¬ S (f q.toNat))) (by omega) c_28)⟩) (by omega)  ls (lv_sub hl [1, 2, 0] rfl)
  exact L4 _ (z1 + 1) (by omega) (⟨fun _ => rfl, fun _ => rfl⟩) (Nat.lt_succ_self _)  ls (lv_sub hl [1, 2, 0] rfl)

set_option maxRecDepth 20000 in
theorem c_X0_hasToken (l : Launch) (D : va_G) (cA : Nat → ClassId) (n : Nat) (ad : Nat → Nat) (en : Nat → va_E) {i m : Nat} {f : Nat → Int} {S : Int → Prop} {G : Prop} {zz pl : Int} (hi : i + 3 < n) (hk : XK cA ad en i m f S G zz pl) (hpl : 0 ≤ pl ∧ pl ≤ (m : Int)) : Met l yX0_hasToken (Cond.code yX0_hasToken cX0_hasToken 1 (some .boolean) :: xU) (xrm 4 86) (va_Pc [.ref (ad i)] (xB D cA n ad en)) (vp_Si (fun z => z = xb (sp_ts G S f (m : Int) pl < (m : Int)))) 0 0 (fun _ => False) := by
  refine xmet (by decide) (Nat.le_of_ble_eq_true rfl) (fun p e s mm args below meth c ls hx hb hrt hml hown hts hlocks hname hB hl => ?_)
  obtain ⟨hP, hK, hN⟩ := hB
  have hl : lv_has ls 1 [(0, .ref (ad i))] := hl
  have hm := hk.2.1.2.2.1
  refine lv_aload_n hx hb dX0_hasToken_0 rfl (lv_at hl 0 rfl) ?_
  refine lv_aload_n hx hb dX0_hasToken_1 rfl (lv_at hl 0 rfl) ?_
  refine x_get (T := TX0) (N := 5) hx hb hts uX0 hown hK hP (i := i) (by omega) hk.1 rfl 4 (by decide) u_fl_RX0_41 rfl dX0_hasToken_2 ?_
  have hts5 := sp_ts_b (G := G) (S := S) (f := f) (m := (m : Int)) (a := pl) (by omega)
  refine xv_i (i := i) (As := [.int (xI pl)]) (rest := []) ⟨hx, hb, hml, hown, hts⟩ hl.1 (c_X0_tokenStart l D cA n ad en (by omega) hk pl (by omega)) k_X0_tokenStart u_ml_RX0_48 hK hN hP (by omega) hk.1 rfl rfl rfl rfl (Nat.le_of_ble_eq_true rfl) ⟨Nat.le_of_ble_eq_true rfl, Nat.le_of_ble_eq_true rfl⟩ ⟨Nat.le_of_ble_eq_true rfl, Nat.le_of_ble_eq_true rfl⟩ dX0_hasToken_5 ?_
  refine lv_aload_n hx hb dX0_hasToken_8 rfl (lv_at hl 0 rfl) ?_
  refine x_get (T := TX0) (N := 5) hx hb hts uX0 hown hK hP (i := i) (by omega) hk.1 rfl 0 (by decide) u_fl_RX0_12 rfl dX0_hasToken_9 ?_
  refine x_getn (T := TX2) (N := 2) hx hb hts uX2 hown hN hK hP (i := i + 1) (by omega) hk.2.1.1 rfl 1 (by decide) (by simp only [xNest, List.mem_cons]; exact Or.inl rfl) rfl dX0_hasToken_12 ?_
  refine x_icmp_ge (tgt := 22) hx hb dX0_hasToken_15 (by decide) (by omega) (fun c_15 => ?_) (fun c_15 => ?_)
  · refine x_iconst hx hb dX0_hasToken_22 ?_
    exact xr_z hx hb hrt hlocks (xb_0 (by omega)) dX0_hasToken_23
  · refine x_iconst hx hb dX0_hasToken_18 ?_
    refine lv_goto (tgt := 23) hx hb dX0_hasToken_19 (by decide) ?_
    exact xr_z hx hb hrt hlocks (xb_1 (by omega)) dX0_hasToken_23

set_option maxRecDepth 20000 in
theorem c_X0_tokensLeft (l : Launch) (D : va_G) (cA : Nat → ClassId) (n : Nat) (ad : Nat → Nat) (en : Nat → va_E) {i m : Nat} {f : Nat → Int} {S : Int → Prop} {G : Prop} {zz pl : Int} (hi : i + 3 < n) (hk : XK cA ad en i m f S G zz pl) (hpl : 0 ≤ pl ∧ pl ≤ (m : Int)) : Met l yX0_tokensLeft (Cond.code yX0_tokensLeft cX0_tokensLeft 3 (some .int) :: xU) (xrm 4 86) (va_Pc [.ref (ad i)] (xB D cA n ad en)) (vp_Si (fun z => z = xI (sp_left G S f (m : Int) pl))) 0 0 (fun _ => False) := by
  refine xmet (by decide) (Nat.le_of_ble_eq_true rfl) (fun p e s mm args below meth c ls hx hb hrt hml hown hts hlocks hname hB hl => ?_)
  obtain ⟨hP, hK, hN⟩ := hB
  have hl : lv_has ls 3 [(0, .ref (ad i))] := hl
  have hm := hk.2.1.2.2.1
  refine lv_aload_n hx hb dX0_tokensLeft_0 rfl (lv_at hl 0 rfl) ?_
  refine lv_aload_n hx hb dX0_tokensLeft_1 rfl (lv_at hl 0 rfl) ?_
  refine x_get (T := TX0) (N := 5) hx hb hts uX0 hown hK hP (i := i) (by omega) hk.1 rfl 4 (by decide) u_fl_RX0_41 rfl dX0_tokensLeft_2 ?_
  have hts5 := sp_ts_b (G := G) (S := S) (f := f) (m := (m : Int)) (a := pl) (by omega)
  refine xv_i (i := i) (As := [.int (xI pl)]) (rest := []) ⟨hx, hb, hml, hown, hts⟩ hl.1 (c_X0_tokenStart l D cA n ad en (by omega) hk pl (by omega)) k_X0_tokenStart u_ml_RX0_48 hK hN hP (by omega) hk.1 rfl rfl rfl rfl (Nat.le_of_ble_eq_true rfl) ⟨Nat.le_of_ble_eq_true rfl, Nat.le_of_ble_eq_true rfl⟩ ⟨Nat.le_of_ble_eq_true rfl, Nat.le_of_ble_eq_true rfl⟩ dX0_tokensLeft_5 ?_
  refine lv_istore_n (lv' := [(1, .int (xI (sp_ts G S f (m : Int) pl))), (0, .ref (ad i))]) hx hb dX0_tokensLeft_8 rfl hl (by decide) rfl (fun ls hl => ?_)
  refine x_iconst hx hb dX0_tokensLeft_9 ?_
  refine lv_istore_n (lv' := [(2, .int (xI 0)), (1, .int (xI (sp_ts G S f (m : Int) pl))), (0, .ref (ad i))]) hx hb dX0_tokensLeft_10 rfl hl (by decide) rfl (fun ls hl => ?_)
  have L11 : ∀ (nn : Nat) (a : Int) (q : Int), (0 ≤ q ∧ q ≤ a ∧ a ≤ (m : Int)) → (q + sp_tl G S f (m : Int) (201 - q).toNat a = sp_left G S f (m : Int) pl) → (((m : Int) - a).toNat) < nn → ∀ ls : Array Slot, lv_has ls 3 [(0, .ref (ad i)), (1, .int (xI a)), (2, .int (xI q))] → W p l e (xrm 4 86) s mm args below meth c s.heap [] 0 0 (MQ below (vp_Si (fun z => z = xI (sp_left G S f (m : Int) pl))) args s 0 0 (fun _ => False)) (F0 mm 11 ls []) := by
    intro nn
    induction nn with
    | zero =>
      intro a q  ha hF hmm  ls hl
      exact absurd hmm (Nat.not_lt_zero _)
    | succ nn ih =>
      intro a q  ha hF hmm  ls hl
      refine lv_iload_n hx hb dX0_tokensLeft_11 rfl (lv_at hl 2 rfl) ?_
      refine x_sipush hx hb dX0_tokensLeft_12 (by decide +kernel) ?_
      refine x_icmp_ge (tgt := 45) hx hb dX0_tokensLeft_15 (by decide) (by omega) (fun c_15 => ?_) (fun c_15 => ?_)
      · refine lv_iload_n hx hb dX0_tokensLeft_45 rfl (lv_at hl 2 rfl) ?_
        exact xr_i hx hb hrt hlocks (by rw [← hF, sp_tl_e _ (by omega), Int.add_zero]) dX0_tokensLeft_46
      · refine lv_iload_n hx hb dX0_tokensLeft_18 rfl (lv_at hl 1 rfl) ?_
        refine lv_aload_n hx hb dX0_tokensLeft_19 rfl (lv_at hl 0 rfl) ?_
        refine x_get (T := TX0) (N := 5) hx hb hts uX0 hown hK hP (i := i) (by omega) hk.1 rfl 0 (by decide) u_fl_RX0_12 rfl dX0_tokensLeft_20 ?_
        refine x_getn (T := TX2) (N := 2) hx hb hts uX2 hown hN hK hP (i := i + 1) (by omega) hk.2.1.1 rfl 1 (by decide) (by simp only [xNest, List.mem_cons]; exact Or.inl rfl) rfl dX0_tokensLeft_23 ?_
        refine x_icmp_ge (tgt := 45) hx hb dX0_tokensLeft_26 (by decide) (by omega) (fun c_26 => ?_) (fun c_26 => ?_)
        · refine lv_iload_n hx hb dX0_tokensLeft_45 rfl (lv_at hl 2 rfl) ?_
          exact xr_i hx hb hrt hlocks (by rw [← hF, sp_tl_e _ (by omega), Int.add_zero]) dX0_tokensLeft_46
        · refine x_iinc (lv' := [(2, .int (xI (q + 1))), (0, .ref (ad i)), (1, .int (xI a))]) (k := 2) hx hb dX0_tokensLeft_29 hl rfl (by decide) rfl (fun ls hl => ?_)
          refine lv_aload_n hx hb dX0_tokensLeft_32 rfl (lv_at hl 1 rfl) ?_
          refine lv_aload_n hx hb dX0_tokensLeft_33 rfl (lv_at hl 1 rfl) ?_
          refine lv_iload_n hx hb dX0_tokensLeft_34 rfl (lv_at hl 2 rfl) ?_
          have hte35 := sp_te_b (S := S) (f := f) (m := (m : Int)) (a := a) (by omega)
          refine xv_i (i := i) (As := [.int (xI a)]) (rest := [.ref (ad i)]) ⟨hx, hb, hml, hown, hts⟩ hl.1 (c_X0_tokenEnd l D cA n ad en (by omega) hk a (by omega)) k_X0_tokenEnd u_ml_RX0_51 hK hN hP (by omega) hk.1 rfl rfl rfl rfl (Nat.le_of_ble_eq_true rfl) ⟨Nat.le_of_ble_eq_true rfl, Nat.le_of_ble_eq_true rfl⟩ ⟨Nat.le_of_ble_eq_true rfl, Nat.le_of_ble_eq_true rfl⟩ dX0_tokensLeft_35 ?_
          have hts38 := sp_ts_b (G := G) (S := S) (f := f) (m := (m : Int)) (a := (sp_te S f (m : Int) a)) (by omega)
          refine xv_i (i := i) (As := [.int (xI (sp_te S f (m : Int) a))]) (rest := []) ⟨hx, hb, hml, hown, hts⟩ hl.1 (c_X0_tokenStart l D cA n ad en (by omega) hk (sp_te S f (m : Int) a) (by omega)) k_X0_tokenStart u_ml_RX0_48 hK hN hP (by omega) hk.1 rfl rfl rfl rfl (Nat.le_of_ble_eq_true rfl) ⟨Nat.le_of_ble_eq_true rfl, Nat.le_of_ble_eq_true rfl⟩ ⟨Nat.le_of_ble_eq_true rfl, Nat.le_of_ble_eq_true rfl⟩ dX0_tokensLeft_38 ?_
          refine lv_istore_n (lv' := [(1, .int (xI (sp_ts G S f (m : Int) (sp_te S f (m : Int) a)))), (2, .int (xI (q + 1))), (0, .ref (ad i))]) hx hb dX0_tokensLeft_41 rfl hl (by decide) rfl (fun ls hl => ?_)
          refine lv_goto (tgt := 11) hx hb dX0_tokensLeft_42 (by decide) ?_
          exact ih (sp_ts G S f (m : Int) (sp_te S f (m : Int) a)) (q + 1) (by omega) ((sp_tl_t (by omega) (by omega)).symm.trans hF) (by omega)  ls (lv_sub hl [2, 0, 1] rfl)
  exact L11 _ (sp_ts G S f (m : Int) pl) 0 (by omega) (Int.zero_add _) (Nat.lt_succ_self _)  ls (lv_sub hl [2, 1, 0] rfl)

set_option maxRecDepth 20000 in
theorem c_X0_separateBy (l : Launch) (D : va_G) (cA : Nat → ClassId) (n : Nat) (ad : Nat → Nat) (en : Nat → va_E) (sz : Nat) {i m : Nat} {f : Nat → Int} {G : Prop} {zz pl : Int} (hi : i + 3 < n) (hk : XKw cA ad en i m f G zz pl) {j k : Nat} {h : Nat → Int} (hj : j + 1 < n) (hq : XR cA ad en j k h) (hij : j + 1 < i ∨ i + 3 < j) : Met l yX0_separateBy (Cond.code yX0_separateBy cX0_separateBy 4 none :: xU) (xrm 2 42) (va_Pc [.ref (ad i), .ref (ad j)] (xM D cA n ad en sz)) (va_Qv (fun u => XK cA ad u i m f (sp_sep h k) G zz pl ∧ xO (i + 3) (i + 4) en u) (xE D n ad) (xA n ad sz)) 0 0 (xA n ad sz) := by
  refine xmet (by decide) (Nat.le_of_ble_eq_true rfl) (fun p e s mm args below meth c ls hx hb hrt hml hown hts hlocks hname hB hl => ?_)
  obtain ⟨⟨hP, hK, hN⟩, hsz, hDt⟩ := hB
  have hD : xD (xA n ad sz) n ad := xD_self hDt sz
  have hA : ∀ q : Nat, s.heap.size ≤ q → xA n ad sz q := fun q h => Or.inr (by rw [← hsz]; exact h)
  have hS : va_S (xA n ad sz) s.heap s.heap [] := va_S.rf
  have hown : s.vm.findClass RX0 = some mm.cls := hown
  have hl : lv_has ls 4 [(0, .ref (ad i)), (1, .ref (ad j))] := hl
  have hm := hk.2.1.2.2.1
  have hm2 := hq.2.2.1
  obtain ⟨g, hg1⟩ := hk.2.2
  refine x_iconst hx hb dX0_separateBy_0 ?_
  refine lv_istore_n (lv' := [(2, .int (xI 0)), (0, .ref (ad i)), (1, .ref (ad j))]) hx hb dX0_separateBy_1 rfl hl (by decide) rfl (fun ls hl => ?_)
  have L2 : ∀ (nn : Nat) (a : Int) (ew2 : Nat → va_E) (H : Heap) (locs : List Loc), (0 ≤ a ∧ a ≤ 256) → ((256 - a).toNat) < nn → (XKw cA ad ew2 i m f G zz pl) → (XR cA ad ew2 j k h) → (xO (i + 3) (i + 4) en ew2) → (∃ g : Nat → Int32, ew2 (i + 3) = .inl (cA 1, 256, .inl g) ∧ ∀ t : Nat, (t : Int) < a → g t = xb False) → va_P D vwCl (xw n ad ew2) H → va_S (xA n ad sz) s.heap H locs → ∀ ls : Array Slot, lv_has ls 4 [(0, .ref (ad i)), (1, .ref (ad j)), (2, .int (xI a))] → W p l e (xrm 2 42) s mm args below meth c H locs 0 0 (MQ below (va_Qv (fun u => XK cA ad u i m f (sp_sep h k) G zz pl ∧ xO (i + 3) (i + 4) en u) (xE D n ad) (xA n ad sz)) args s 0 0 (xA n ad sz)) (F0 mm 2 ls []) := by
    intro nn
    induction nn with
    | zero =>
      intro a ew2 H locs ha hmm hk hq ho hG hP hS ls hl
      exact absurd hmm (Nat.not_lt_zero _)
    | succ nn ih =>
      intro a ew2 H locs ha hmm hk hq ho hG hP hS ls hl
      obtain ⟨g, hg1, hg2⟩ := hG
      refine lv_iload_n hx hb dX0_separateBy_2 rfl (lv_at hl 2 rfl) ?_
      refine lv_aload_n hx hb dX0_separateBy_3 rfl (lv_at hl 0 rfl) ?_
      refine x_get (T := TX0) (N := 5) hx hb hts uX0 hown hK hP (i := i) (by omega) hk.1 rfl 1 (by decide) u_fl_RX0_18 rfl dX0_separateBy_4 ?_
      refine x_alen hx hb hK hP (i := i + 3) (by omega) 1 hg1 rfl dX0_separateBy_7 ?_
      refine x_icmp_ge (tgt := 24) hx hb dX0_separateBy_8 (by decide) (by omega) (fun c_8 => ?_) (fun c_8 => ?_)
      · refine x_iconst hx hb dX0_separateBy_24 ?_
        refine lv_istore_n (lv' := [(2, .int (xI 0)), (0, .ref (ad i)), (1, .ref (ad j))]) hx hb dX0_separateBy_25 rfl hl (by decide) rfl (fun ls hl => ?_)
        have L26 : ∀ (nn : Nat) (a : Int) (ew26 : Nat → va_E) (H : Heap) (locs : List Loc), (0 ≤ a ∧ a ≤ (k : Int)) → (((k : Int) - a).toNat) < nn → (XKw cA ad ew26 i m f G zz pl) → (XR cA ad ew26 j k h) → (xO (i + 3) (i + 4) en ew26) → (∃ g : Nat → Int32, ew26 (i + 3) = .inl (cA 1, 256, .inl g) ∧ ∀ t : Nat, t < 256 → g t = xb (∃ u : Nat, (u : Int) < a ∧ h u = (t : Int))) → va_P D vwCl (xw n ad ew26) H → va_S (xA n ad sz) s.heap H locs → ∀ ls : Array Slot, lv_has ls 4 [(0, .ref (ad i)), (1, .ref (ad j)), (2, .int (xI a))] → W p l e (xrm 2 42) s mm args below meth c H locs 0 0 (MQ below (va_Qv (fun u => XK cA ad u i m f (sp_sep h k) G zz pl ∧ xO (i + 3) (i + 4) en u) (xE D n ad) (xA n ad sz)) args s 0 0 (xA n ad sz)) (F0 mm 26 ls []) := by
          intro nn
          induction nn with
          | zero =>
            intro a ew26 H locs ha hmm hk hq ho hG hP hS ls hl
            exact absurd hmm (Nat.not_lt_zero _)
          | succ nn ih =>
            intro a ew26 H locs ha hmm hk hq ho hG hP hS ls hl
            obtain ⟨g, hg1, hg2⟩ := hG
            refine lv_iload_n hx hb dX0_separateBy_26 rfl (lv_at hl 2 rfl) ?_
            refine lv_aload_n hx hb dX0_separateBy_27 rfl (lv_at hl 1 rfl) ?_
            refine x_getn (T := TX2) (N := 2) hx hb hts uX2 hown hN hK hP (i := j) (by omega) hq.1 rfl 1 (by decide) (by simp only [xNest, List.mem_cons]; exact Or.inl rfl) rfl dX0_separateBy_28 ?_
            refine x_icmp_ge (tgt := 66) hx hb dX0_separateBy_31 (by decide) (by omega) (fun c_31 => ?_) (fun c_31 => ?_)
            · exact xe_v hx hb hrt hlocks hP hS (⟨⟨hk.1, hk.2.1, g, hg1, fun t ht => (hg2 t ht).trans (xb_iff ⟨fun w => by obtain ⟨u, hu, hu2⟩ := w; exact ⟨u, by omega, hu2⟩, fun w => by obtain ⟨u, hu, hu2⟩ := w; exact ⟨u, by omega, hu2⟩⟩)⟩, ho⟩) dX0_separateBy_66
            · refine lv_aload_n hx hb dX0_separateBy_34 rfl (lv_at hl 1 rfl) ?_
              refine lv_iload_n hx hb dX0_separateBy_35 rfl (lv_at hl 2 rfl) ?_
              refine xv_i (i := j) (As := [.int (xI a)]) (rest := []) ⟨hx, hb, hml, hown, hts⟩ hl.1 (c_X2_signThere l D cA n ad ew26 (by omega) hq a (by omega)) k_X2_signThere u_ml_RX0_44 hK hN hP (by omega) hq.1 rfl rfl rfl rfl (Nat.le_of_ble_eq_true rfl) ⟨Nat.le_of_ble_eq_true rfl, Nat.le_of_ble_eq_true rfl⟩ ⟨Nat.le_of_ble_eq_true rfl, Nat.le_of_ble_eq_true rfl⟩ dX0_separateBy_36 ?_
              have hs := hq.2.2.2 a.toNat (by omega)
              refine lv_istore_n (lv' := [(3, .int (xI (h (Int.toNat a)))), (0, .ref (ad i)), (1, .ref (ad j)), (2, .int (xI a))]) hx hb dX0_separateBy_39 rfl hl (by decide) rfl (fun ls hl => ?_)
              refine lv_iload_n hx hb dX0_separateBy_40 rfl (lv_at hl 0 rfl) ?_
              refine x_if_lt (tgt := 60) hx hb dX0_separateBy_41 (by decide) (by omega) (fun c_41 => absurd c_41 (by omega)) (fun c_41 => ?_)
              refine lv_iload_n hx hb dX0_separateBy_44 rfl (lv_at hl 0 rfl) ?_
              refine lv_aload_n hx hb dX0_separateBy_45 rfl (lv_at hl 1 rfl) ?_
              refine x_get (T := TX0) (N := 5) hx hb hts uX0 hown hK hP (i := i) (by omega) hk.1 rfl 1 (by decide) u_fl_RX0_18 rfl dX0_separateBy_46 ?_
              refine x_alen hx hb hK hP (i := i + 3) (by omega) 1 hg1 rfl dX0_separateBy_49 ?_
              refine x_icmp_ge (tgt := 60) hx hb dX0_separateBy_50 (by decide) (by omega) (fun c_50 => absurd c_50 (by omega)) (fun c_50 => ?_)
              refine lv_aload_n hx hb dX0_separateBy_53 rfl (lv_at hl 1 rfl) ?_
              refine x_get (T := TX0) (N := 5) hx hb hts uX0 hown hK hP (i := i) (by omega) hk.1 rfl 1 (by decide) u_fl_RX0_18 rfl dX0_separateBy_54 ?_
              refine lv_iload_n hx hb dX0_separateBy_57 rfl (lv_at hl 0 rfl) ?_
              refine x_iconst hx hb dX0_separateBy_58 ?_
              refine x_zst hx hb hK hP hD hS (i := i + 3) (by omega) hg1 (p1 := True) (xb_1 trivial) (by omega) dX0_separateBy_59 (fun H locs hP hS => ?_)
              have hP : va_P D vwCl (xw n ad (va_up ew26 (i + 3) (.inl (cA 1, 256, .inl (upd g (Int.toNat (h (Int.toNat a))) (xb True)))))) H := hP
              obtain ⟨en1, he1⟩ : ∃ z, z = va_up ew26 (i + 3) (.inl (cA 1, 256, .inl (upd g (Int.toNat (h (Int.toNat a))) (xb True)))) := ⟨_, rfl⟩
              rw [← he1] at hP
              have ho1 : en1 (i + 3) = (.inl (cA 1, 256, .inl (upd g (Int.toNat (h (Int.toNat a))) (xb True)))) := by rw [he1, va_up_self]
              have hk2 := (show en1 i = ew26 i from by rw [he1, va_up_ne _ _ (by omega)]).trans hk.1
              have hk3 := (show en1 (i + 1) = ew26 (i + 1) from by rw [he1, va_up_ne _ _ (by omega)]).trans hk.2.1.1
              have hk4 := (show en1 j = ew26 j from by rw [he1, va_up_ne _ _ (by omega)]).trans hq.1
              refine x_iinc (lv' := [(2, .int (xI (a + 1))), (3, .int (xI (h (Int.toNat a)))), (0, .ref (ad i)), (1, .ref (ad j))]) (k := 3) hx hb dX0_separateBy_60 hl rfl (by decide) rfl (fun ls hl => ?_)
              refine lv_goto (tgt := 26) hx hb dX0_separateBy_63 (by decide) ?_
              have hk1 : XKw cA ad en1 i m f G zz pl := by rw [he1]; exact hk.ar _
              have ho2 : xO (i + 3) (i + 4) en en1 := by rw [he1]; exact ho.up (by omega) (by omega)
              have hq1 : XR cA ad en1 j k h := hq.ko (a := i + 3) (b := i + 4) (by rw [he1]; exact xO.rf.up (by omega) (by omega)) (by omega)
              have hG1 : ∃ g : Nat → Int32, en1 (i + 3) = .inl (cA 1, 256, .inl g) ∧ ∀ t : Nat, t < 256 → g t = xb (∃ u : Nat, (u : Int) < a + 1 ∧ h u = (t : Int)) := ⟨_, ho1, fun t ht => by
          by_cases q : t = Int.toNat (h (Int.toNat a))
          · have q2 : h a.toNat = (t : Int) := by omega
            exact (if_pos q).trans (xb_iff ⟨fun _ => ⟨a.toNat, by omega, q2⟩, fun _ => trivial⟩)
          · refine (if_neg q).trans ((hg2 t ht).trans (xb_iff ⟨fun w => ?_, fun w => ?_⟩))
            · obtain ⟨u, hu, hu2⟩ := w
              exact ⟨u, by omega, hu2⟩
            · obtain ⟨u, hu, hu2⟩ := w
              refine ⟨u, ?_, hu2⟩
              rcases (show (u : Int) < a ∨ u = a.toNat by omega) with w | w
              · exact w
              · subst w; omega⟩
              exact ih (a + 1) en1 _ _ (by omega) (by omega) hk1 hq1 ho2 hG1 hP hS ls (lv_sub hl [2, 3, 0] rfl)
        exact L26 _ 0 ew2 _ _ (by omega) (Nat.lt_succ_self _) hk hq ho (⟨g, hg1, fun t ht => (hg2 t (by omega)).trans (xb_iff ⟨False.elim, fun q => by obtain ⟨u, hu, _⟩ := q; omega⟩)⟩) hP hS ls (lv_sub hl [1, 2, 0] rfl)
      · refine lv_aload_n hx hb dX0_separateBy_11 rfl (lv_at hl 0 rfl) ?_
        refine x_get (T := TX0) (N := 5) hx hb hts uX0 hown hK hP (i := i) (by omega) hk.1 rfl 1 (by decide) u_fl_RX0_18 rfl dX0_separateBy_12 ?_
        refine lv_iload_n hx hb dX0_separateBy_15 rfl (lv_at hl 2 rfl) ?_
        refine x_iconst hx hb dX0_separateBy_16 ?_
        refine x_zst hx hb hK hP hD hS (i := i + 3) (by omega) hg1 (p1 := False) (xb_0 id) (by omega) dX0_separateBy_17 (fun H locs hP hS => ?_)
        have hP : va_P D vwCl (xw n ad (va_up ew2 (i + 3) (.inl (cA 1, 256, .inl (upd g (Int.toNat a) (xb False)))))) H := hP
        obtain ⟨en5, he5⟩ : ∃ z, z = va_up ew2 (i + 3) (.inl (cA 1, 256, .inl (upd g (Int.toNat a) (xb False)))) := ⟨_, rfl⟩
        rw [← he5] at hP
        have ho5 : en5 (i + 3) = (.inl (cA 1, 256, .inl (upd g (Int.toNat a) (xb False)))) := by rw [he5, va_up_self]
        have hk6 := (show en5 i = ew2 i from by rw [he5, va_up_ne _ _ (by omega)]).trans hk.1
        have hk7 := (show en5 (i + 1) = ew2 (i + 1) from by rw [he5, va_up_ne _ _ (by omega)]).trans hk.2.1.1
        have hk8 := (show en5 j = ew2 j from by rw [he5, va_up_ne _ _ (by omega)]).trans hq.1
        refine x_iinc (lv' := [(2, .int (xI (a + 1))), (0, .ref (ad i)), (1, .ref (ad j))]) (k := 2) hx hb dX0_separateBy_18 hl rfl (by decide) rfl (fun ls hl => ?_)
        refine lv_goto (tgt := 2) hx hb dX0_separateBy_21 (by decide) ?_
        have hk1 : XKw cA ad en5 i m f G zz pl := by rw [he5]; exact hk.ar _
        have ho2 : xO (i + 3) (i + 4) en en5 := by rw [he5]; exact ho.up (by omega) (by omega)
        have hq1 : XR cA ad en5 j k h := hq.ko (a := i + 3) (b := i + 4) (by rw [he5]; exact xO.rf.up (by omega) (by omega)) (by omega)
        have hG1 : ∃ g : Nat → Int32, en5 (i + 3) = .inl (cA 1, 256, .inl g) ∧ ∀ t : Nat, (t : Int) < a + 1 → g t = xb False := ⟨_, ho5, fun t ht => by
          by_cases q : t = Int.toNat a
          · subst q; exact if_pos rfl
          · show (if t = Int.toNat a then xb False else g t) = xb False
            rw [if_neg q]; exact hg2 t (by omega)⟩
        exact ih (a + 1) en5 _ _ (by omega) (by omega) hk1 hq1 ho2 hG1 hP hS ls (lv_sub hl [1, 2, 0] rfl)
  exact L2 _ 0 en _ _ (by omega) (Nat.lt_succ_self _) hk hq xO.rf (⟨g, hg1, fun t ht => absurd ht (by omega)⟩) hP hS ls (lv_sub hl [1, 2, 0] rfl)
