/-! what the static rows hold -/
def sp_nosl (j : Nat) : Int := if j = 0 then 36 else if j = 1 then 40 else if j = 2 then 41 else if j = 3 then 42 else if j = 4 then 43 else if j = 5 then 46 else if j = 6 then 63 else if j = 7 then 91 else if j = 8 then 92 else if j = 9 then 94 else if j = 10 then 123 else 124
theorem sp_nosl_b (j : Nat) : 36 ≤ sp_nosl j ∧ sp_nosl j ≤ 124 := by unfold sp_nosl; omega
def sp_sepok (z : Int) : Prop := (0 ≤ z ∧ z < 256) ∧ ∀ j : Nat, j < 12 → ¬ sp_nosl j = z
def xZA (A : Nat → Prop) (U : State) (H : Heap) : Prop := ∃ t : Nat, va_Z "RowsOfSigns" "NO_SEPARATORS" "[I" (.ref t) A U H ∧ va_T .int t 12 (fun j => .int (xI (sp_nosl j))) A U H
def xZ (U : State) : Prop := xZA (fun _ => False) U U.heap
theorem xZA.to {A : Nat → Prop} {s U : State} {H : Heap} {locs : List Loc} (h : xZA A s s.heap) (hS : va_S A s.heap H locs) (hU : U.heap = H) (hW : s.WarmedH U.vm) : xZ U := by
  obtain ⟨t, h1, h2⟩ := h
  subst hU
  exact ⟨t, ((h1.kept (fun a g1 g2 => hS.2.1 a g1 g2)).narrow (fun _ q => q.elim)).moved hW.alike, ((h2.kept (fun a g1 g2 => hS.2.1 a g1 g2)).narrow (fun _ q => q.elim)).moved hW.alike⟩
theorem xZ_calling {U : State} (g : JFrame) (mk : MethodId) (a : Array Value) (h : xZ U) : xZ (U.calling g mk a) := by
  obtain ⟨t, h1, h2⟩ := h
  exact ⟨t, va_Z.moved (u := U) (U := U.calling g mk a) (Vm.Alike.refl U.vm) h1, va_T.moved (u := U) (U := U.calling g mk a) (Vm.Alike.refl U.vm) h2⟩
theorem xZ_blind {av : List Value} : FrameBlind (va_Pc av xZ) := fun a _ g mk q => ⟨q.1, xZ_calling g mk a q.2⟩
section XCZ
variable {p : Program} {l : Launch} {e : Env} {R : Room} {s : State} {m : MethodId} {args : Array Value} {below : List Frame} {meth : Method} {c : Code} {H : Heap} {locs : List Loc} {cells slots : Nat} {Q : State → Prop}
variable {cc bytes : ByteArray} {pc : Nat} {ls : Array Slot} {rest st0 As : List Value} {D : va_G} {cA : Nat → ClassId} {n : Nat} {ad : Nat → Nat} {en : Nat → va_E} {A : Nat → Prop} {H0 : Heap} {own C : String} {y : MethodName} {maxL nL nn index fr lo : Nat} {ret : Option FieldType}
theorem x_sB {B : State → Prop} (F : CallFix p m c cc nL s args xU own) (hsz : ls.size = nL) {r : Int32} (hM : Met l y (Cond.code y bytes maxL ret :: xU) (xrm fr lo) (va_Pc As B) (vp_Si (fun z => z = r)) 0 0 (fun _ => False)) (hcal : xCalS y bytes maxL ret nn) (hl : Cond.methodLink own index y ∈ xU) (hnn : As.length = nn) (hst : st0 = As.reverse ++ rest) (hroom : (rest.map fun v => v.category).sum ≤ 8) (hR : fr + 1 ≤ R.frames ∧ 8 + (maxL + 11) + lo ≤ R.locals) (hf : cells ≤ R.cells ∧ slots ≤ R.slots) (hdg : decode cc pc = .ok (.invokestatic index, 3)) (hbl : FrameBlind (va_Pc As B)) (hB : ∀ U : State, U.heap = H → s.WarmedH U.vm → B U)
    (kk : W p l e R s m args below meth c H locs cells slots Q (F0 m (pc + 3) ls (.int r :: rest))) : W p l e R s m args below meth c H locs cells slots Q (F0 m pc ls st0) := by
  subst hst
  refine vp_callSi (W.runS (As := As) (rest := rest) F hM (x_cs F.2.2.2.2 hcal hl hR) ⟨hbl, fun U hU hW => ⟨rfl, hB U hU hW⟩⟩ rfl hnn hsz rfl (lv_room hroom) hdg ⟨hf.1, hf.2⟩) (fun z hz => ?_)
  subst hz
  exact kk
theorem xM_blindZ {sz : Nat} {av : List Value} : FrameBlind (va_Pc av (fun U => xM D cA n ad en sz U ∧ xZ U)) := fun a _ g mk q => ⟨q.1, ⟨xB_calling g mk a q.2.1.1, q.2.1.2.1, q.2.1.2.2⟩, xZ_calling g mk a q.2.2⟩
theorem xmZ_i (F : CallFix p m c cc nL s args xU own) (hsz : ls.size = nL) {i : Nat} {post : Int32 → (Nat → va_E) → Prop} (hM : Met l y (Cond.code y bytes maxL ret :: xU) (xrm fr lo) (va_Pc (.ref (ad i) :: As) (fun U => xM D cA n ad en H.size U ∧ xZ U)) (va_Qi post (xE D n ad) (xA n ad H.size)) 0 0 (xA n ad H.size)) (hcal : xCal C y bytes maxL ret nn) (hl : Cond.methodLink own index y ∈ xU) (hK : va_K D vwCl (xty cA) s) (hN : xN s) (hP : va_P D vwCl (xw n ad en) H) {ci : Nat} (hi : i < n) {fs : List Value} (he : en i = .inr (ci, fs)) {q : vw_C} (hc : vwCl[ci]? = some q) (hq : q.1 = C) (hnn : As.length = nn) (hst : st0 = As.reverse ++ .ref (ad i) :: rest) (hroom : (rest.map fun v => v.category).sum ≤ 8) (hR : fr + 1 ≤ R.frames ∧ 8 + (maxL + 11) + lo ≤ R.locals) (hf : cells ≤ R.cells ∧ slots ≤ R.slots) (hdg : decode cc pc = .ok (.invokevirtual index, 3)) (hD : xD A n ad) (hS : va_S A H0 H locs) (hA : ∀ q, H0.size ≤ q → A q) (hZ : ∀ U : State, U.heap = H → s.WarmedH U.vm → xZ U)
    (kk : ∀ (r : Int32) (u : Nat → va_E) (H1 : Heap) (locs1 : List Loc), post r u → va_P D vwCl (xw n ad u) H1 → va_S A H0 H1 locs1 → W p l e R s m args below meth c H1 locs1 cells slots Q (F0 m (pc + 3) ls (.int r :: rest))) : W p l e R s m args below meth c H locs cells slots Q (F0 m pc ls st0) := by
  subst hst
  subst hq
  have hF : ∀ q, xA n ad H.size q → A q := fun q h => by
    rcases h with ⟨j, hj, rfl⟩ | h
    · exact hD.2 j hj
    · exact hA q (Nat.le_trans hS.1 h)
  refine va_calli (va_runV (As := As) (rest := rest) F hM (x_cw F.2.2.2.2 hcal hl hR) ⟨xM_blindZ, va_recv hK hP hc (xw_ate hi he), fun U hU hW => ⟨rfl, ⟨xB_of hK hN hP hU hW, by rw [hU], xD_w hD (fun _ _ => trivial)⟩, hZ U hU hW⟩⟩ rfl hnn hsz rfl (lv_room hroom) hdg ⟨hf.1, hf.2⟩) hS (fun q _ h => hF q h) hF (fun r u t H1 locs1 ht _ hp hB _ _ hS1 => kk r u H1 locs1 hp (by rw [← ht]; exact hB) hS1)
end XCZ

set_option maxRecDepth 20000 in
theorem c_X4_figures (l : Launch) (D : va_G) (cA : Nat → ClassId) (n : Nat) (ad : Nat → Nat) (en : Nat → va_E) (sz : Nat) (hn : 53 ≤ n) {S : xSt} (hC : CW cA ad en S) {m : Nat} {f : Nat → Int} (hr : XR cA ad en 11 m f) (z1 : Int) (hz1 : -9223372036854775808 ≤ z1 ∧ z1 ≤ 9223372036854775807) : Met l yX4_figures (Cond.code yX4_figures cX4_figures 6 (some (.object "RowsOfSigns$Row")) :: xU) (xrm 3 66) (va_Pc [.ref (ad 0), .long (xL z1)] (xM D cA n ad en sz)) (va_Qq (fun r u => r = some (ad 11) ∧ XR cA ad u 11 (sp_nn z1) (sp_nf z1) ∧ xO 11 13 en u) (xE D n ad) (xA n ad sz)) 0 0 (xA n ad sz) := by
  refine xmet (by decide) (Nat.le_of_ble_eq_true rfl) (fun p e s mm args below meth c ls hx hb hrt hml hown hts hlocks hname hB hl => ?_)
  obtain ⟨⟨hP, hK, hN⟩, hsz, hDt⟩ := hB
  have hD : xD (xA n ad sz) n ad := xD_self hDt sz
  have hA : ∀ q : Nat, s.heap.size ≤ q → xA n ad sz q := fun q h => Or.inr (by rw [← hsz]; exact h)
  have hS : va_S (xA n ad sz) s.heap s.heap [] := va_S.rf
  have hown : s.vm.findClass RX4 = some mm.cls := hown
  have hl : lv_has ls 6 [(0, .ref (ad 0)), (1, .long (xL z1))] := hl
  refine lv_aload_n hx hb dX4_figures_0 rfl (lv_at hl 0 rfl) ?_
  refine x_get (T := TX4) (N := 6) hx hb hts uX4 hown hK hP (i := 0) (by omega) hC.1 rfl 5 (by decide) u_fl_RX4_39 rfl dX4_figures_1 ?_
  refine xm_v (i := 11) (As := []) (rest := []) ⟨hx, hb, hml, hown, hts⟩ hl.1 (c_X2_clear l D cA n ad en _ (by omega) hr) k_X2_clear u_ml_RX4_235 hK hN hP (by omega) hr.1 rfl rfl rfl rfl (Nat.le_of_ble_eq_true rfl) ⟨Nat.le_of_ble_eq_true rfl, Nat.le_of_ble_eq_true rfl⟩ ⟨Nat.le_of_ble_eq_true rfl, Nat.le_of_ble_eq_true rfl⟩ dX4_figures_4 hD hS hA (fun en1 H locs hp1 hP hS => ?_)
  obtain ⟨hr, hos⟩ := hp1
  have hC := hC.spare hos hr
  have ho := hos
  refine lv_lload_n hx hb dX4_figures_7 rfl (lv_at hl 1 rfl) ?_
  refine lv_lstore_n (lv' := [(3, .long (xL z1)), (0, .ref (ad 0)), (1, .long (xL z1))]) hx hb dX4_figures_8 rfl hl (by decide) rfl (fun ls hl => ?_)
  refine x_iconst hx hb dX4_figures_9 ?_
  refine lv_istore (lv' := [(5, .int (xI 0)), (3, .long (xL z1)), (0, .ref (ad 0)), (1, .long (xL z1))]) hx hb dX4_figures_10 hl (by decide) rfl (fun ls hl => ?_)
  have L12 : ∀ (nn : Nat) (q : Nat) (F : Nat → Int) (ew12 : Nat → va_E) (H : Heap) (locs : List Loc), (q ≤ 19) → (sp_ln z1 (19 - q) q = sp_len z1) → (∀ t : Nat, t < q → F t = sp_dg z1 t) → (19 - q) < nn → (CW cA ad ew12 S) → (XR cA ad ew12 11 q F) → (xO 11 13 en ew12) → va_P D vwCl (xw n ad ew12) H → va_S (xA n ad sz) s.heap H locs → ∀ ls : Array Slot, lv_has ls 6 [(0, .ref (ad 0)), (1, .long (xL z1)), (3, .long (xL (sp_q z1 q))), (5, .int (xI (q : Int)))] → W p l e (xrm 3 66) s mm args below meth c H locs 0 0 (MQ below (va_Qq (fun r u => r = some (ad 11) ∧ XR cA ad u 11 (sp_nn z1) (sp_nf z1) ∧ xO 11 13 en u) (xE D n ad) (xA n ad sz)) args s 0 0 (xA n ad sz)) (F0 mm 12 ls []) := by
    intro nn
    induction nn with
    | zero =>
      intro q F ew12 H locs hq hL hF hmm hC hr ho hP hS ls hl
      exact absurd hmm (Nat.not_lt_zero _)
    | succ nn ih =>
      intro q F ew12 H locs hq hL hF hmm hC hr ho hP hS ls hl
      refine lv_iload hx hb dX4_figures_12 (lv_at hl 3 rfl) ?_
      refine x_bipush hx hb dX4_figures_14 (by decide +kernel) ?_
      refine x_icmp_ge (tgt := 61) hx hb dX4_figures_16 (by decide) (by omega) (fun c_16 => ?_) (fun c_16 => ?_)
      · refine lv_lload_n hx hb dX4_figures_61 rfl (lv_at hl 1 rfl) ?_
        refine lv_lconst (v := xL 0) hx hb dX4_figures_62 (by decide +kernel) ?_
        refine x_lcmp hx hb dX4_figures_63 (⟨hz1, by omega⟩) ?_
        refine x_if_ge (tgt := 76) hx hb dX4_figures_64 (by decide) (xcmp_r _ _) (fun c_64 => ?_) (fun c_64 => ?_)
        · have c_64 := xcmp_ge.mp c_64
          refine lv_aload_n hx hb dX4_figures_76 rfl (lv_at hl 0 rfl) ?_
          refine x_get (T := TX4) (N := 6) hx hb hts uX4 hown hK hP (i := 0) (by omega) hC.1 rfl 5 (by decide) u_fl_RX4_39 rfl dX4_figures_77 ?_
          refine xm_v (i := 11) (As := []) (rest := []) ⟨hx, hb, hml, hown, hts⟩ hl.1 (c_X2_turnRound l D cA n ad ew12 _ (by omega) hr) k_X2_turnRound u_ml_RX4_108 hK hN hP (by omega) hr.1 rfl rfl rfl rfl (Nat.le_of_ble_eq_true rfl) ⟨Nat.le_of_ble_eq_true rfl, Nat.le_of_ble_eq_true rfl⟩ ⟨Nat.le_of_ble_eq_true rfl, Nat.le_of_ble_eq_true rfl⟩ dX4_figures_80 hD hS hA (fun en2 H locs hp2 hP hS => ?_)
          obtain ⟨hr, hos⟩ := hp2
          have hC := hC.spare hos hr
          have ho := ho.tr hos
          refine lv_aload_n hx hb dX4_figures_83 rfl (lv_at hl 0 rfl) ?_
          refine x_get (T := TX4) (N := 6) hx hb hts uX4 hown hK hP (i := 0) (by omega) hC.1 rfl 5 (by decide) u_fl_RX4_39 rfl dX4_figures_84 ?_
          have hE : q = sp_len z1 := by rw [← hL]; exact (sp_ln_e (by omega)).symm
          exact xe_q hx hb hrt hlocks hP hS (r := some (ad 11)) rfl (⟨rfl, hr.to (by rw [sp_nn_p (by omega)]; exact hE) (fun t ht => by
        unfold sp_nf
        rw [if_neg (by omega), sp_nn_p (by omega), ← hE]
        exact hF _ (by omega)), ho⟩) dX4_figures_87
        · have c_64 := xcmp_lt.mp c_64
          refine lv_aload_n hx hb dX4_figures_67 rfl (lv_at hl 0 rfl) ?_
          refine x_get (T := TX4) (N := 6) hx hb hts uX4 hown hK hP (i := 0) (by omega) hC.1 rfl 5 (by decide) u_fl_RX4_39 rfl dX4_figures_68 ?_
          refine x_bipush hx hb dX4_figures_71 (by decide +kernel) ?_
          refine xm_v (i := 11) (As := [.int (xI 45)]) (rest := []) ⟨hx, hb, hml, hown, hts⟩ hl.1 (c_X2_add l D cA n ad ew12 _ (by omega) hr (by omega) 45 (by omega)) k_X2_add u_ml_RX4_48 hK hN hP (by omega) hr.1 rfl rfl rfl rfl (Nat.le_of_ble_eq_true rfl) ⟨Nat.le_of_ble_eq_true rfl, Nat.le_of_ble_eq_true rfl⟩ ⟨Nat.le_of_ble_eq_true rfl, Nat.le_of_ble_eq_true rfl⟩ dX4_figures_73 hD hS hA (fun en3 H locs hp3 hP hS => ?_)
          obtain ⟨hr, hos⟩ := hp3
          have hC := hC.spare hos hr
          have ho := ho.tr hos
          refine lv_aload_n hx hb dX4_figures_76 rfl (lv_at hl 0 rfl) ?_
          refine x_get (T := TX4) (N := 6) hx hb hts uX4 hown hK hP (i := 0) (by omega) hC.1 rfl 5 (by decide) u_fl_RX4_39 rfl dX4_figures_77 ?_
          refine xm_v (i := 11) (As := []) (rest := []) ⟨hx, hb, hml, hown, hts⟩ hl.1 (c_X2_turnRound l D cA n ad en3 _ (by omega) hr) k_X2_turnRound u_ml_RX4_108 hK hN hP (by omega) hr.1 rfl rfl rfl rfl (Nat.le_of_ble_eq_true rfl) ⟨Nat.le_of_ble_eq_true rfl, Nat.le_of_ble_eq_true rfl⟩ ⟨Nat.le_of_ble_eq_true rfl, Nat.le_of_ble_eq_true rfl⟩ dX4_figures_80 hD hS hA (fun en4 H locs hp4 hP hS => ?_)
          obtain ⟨hr, hos⟩ := hp4
          have hC := hC.spare hos hr
          have ho := ho.tr hos
          refine lv_aload_n hx hb dX4_figures_83 rfl (lv_at hl 0 rfl) ?_
          refine x_get (T := TX4) (N := 6) hx hb hts uX4 hown hK hP (i := 0) (by omega) hC.1 rfl 5 (by decide) u_fl_RX4_39 rfl dX4_figures_84 ?_
          have hE : q = sp_len z1 := by rw [← hL]; exact (sp_ln_e (by omega)).symm
          exact xe_q hx hb hrt hlocks hP hS (r := some (ad 11)) rfl (⟨rfl, hr.to (by rw [sp_nn_n (by omega), ← hE]) (fun t ht => by
        unfold sp_nf
        rw [sp_nn_n (by omega), ← hE]
        by_cases q1 : t = 0
        · rw [if_pos ⟨by omega, q1⟩, q1, show q + 1 - 1 - 0 = q by omega, sp_up_s]
        · rw [if_neg (by omega), sp_up_n _ _ (by omega)]
          exact hF _ (by omega)), ho⟩) dX4_figures_87
      · refine lv_iload hx hb dX4_figures_19 (lv_at hl 3 rfl) ?_
        refine x_if_eq (tgt := 30) hx hb dX4_figures_21 (by decide) (by omega) (fun c_21 => ?_) (fun c_21 => ?_)
        · refine lv_aload_n hx hb dX4_figures_30 rfl (lv_at hl 0 rfl) ?_
          refine x_get (T := TX4) (N := 6) hx hb hts uX4 hown hK hP (i := 0) (by omega) hC.1 rfl 5 (by decide) u_fl_RX4_39 rfl dX4_figures_31 ?_
          refine x_bipush hx hb dX4_figures_34 (by decide +kernel) ?_
          refine lv_lload_n hx hb dX4_figures_36 rfl (lv_at hl 2 rfl) ?_
          refine x_ldc2 hx hb hown (hts _ u_ko_RX4_238) (k := 10) (by decide +kernel) dX4_figures_37 ?_
          refine x_lrem hx hb dX4_figures_40 (sp_q_r hz1 q) ?_
          refine x_l2i hx hb dX4_figures_41 ?_
          refine x_abs hx hb (hml.trans hl.1.symm) hts hown u_ml_RX4_240 (Nat.le_of_ble_eq_true rfl) (Nat.le_of_ble_eq_true rfl) (Nat.le_of_ble_eq_true rfl) (Nat.le_of_ble_eq_true rfl) (r := (if 0 ≤ (Int.tmod (sp_q z1 q) 10) then (Int.tmod (sp_q z1 q) 10) else -(Int.tmod (sp_q z1 q) 10))) (by have := sp_tm (sp_q z1 q); omega) (by omega) dX4_figures_42 ?_
          refine x_iadd hx hb dX4_figures_45 ?_
          refine x_to (sp_dg z1 q) (rfl) ?_
          refine xm_v (i := 11) (As := [.int (xI (sp_dg z1 q))]) (rest := []) ⟨hx, hb, hml, hown, hts⟩ hl.1 (c_X2_add l D cA n ad ew12 _ (by omega) hr (by omega) (sp_dg z1 q) (by have := sp_dg_b z1 q; omega)) k_X2_add u_ml_RX4_48 hK hN hP (by omega) hr.1 rfl rfl rfl rfl (Nat.le_of_ble_eq_true rfl) ⟨Nat.le_of_ble_eq_true rfl, Nat.le_of_ble_eq_true rfl⟩ ⟨Nat.le_of_ble_eq_true rfl, Nat.le_of_ble_eq_true rfl⟩ dX4_figures_46 hD hS hA (fun en5 H locs hp5 hP hS => ?_)
          obtain ⟨hr, hos⟩ := hp5
          have hC := hC.spare hos hr
          have ho := ho.tr hos
          refine lv_lload_n hx hb dX4_figures_49 rfl (lv_at hl 2 rfl) ?_
          refine x_ldc2 hx hb hown (hts _ u_ko_RX4_238) (k := 10) (by decide +kernel) dX4_figures_50 ?_
          refine x_ldiv hx hb dX4_figures_53 (sp_q_r hz1 q) ?_
          refine lv_lstore_n (lv' := [(3, .long (xL (sp_q z1 (q + 1)))), (0, .ref (ad 0)), (1, .long (xL z1)), (5, .int (xI (q : Int)))]) hx hb dX4_figures_54 rfl hl (by decide) rfl (fun ls hl => ?_)
          refine x_iinc (lv' := [(5, .int (xI ((q : Int) + 1))), (3, .long (xL (sp_q z1 (q + 1)))), (0, .ref (ad 0)), (1, .long (xL z1))]) (k := 3) hx hb dX4_figures_55 hl rfl (by decide) rfl (fun ls hl => ?_)
          refine lv_goto (tgt := 12) hx hb dX4_figures_58 (by decide) ?_
          exact ih (q + 1) _ en5 _ _ (by omega) ((sp_ln_t (by omega) (by omega)).symm.trans hL) (fun t ht => by
        by_cases q1 : t = q
        · rw [q1, sp_up_s]
        · rw [sp_up_n _ _ q1]
          exact hF t (by omega)) (by omega) hC hr ho hP hS ls (lv_sub hl [2, 3, 1, 0] rfl)
        · refine lv_lload_n hx hb dX4_figures_24 rfl (lv_at hl 2 rfl) ?_
          refine lv_lconst (v := xL 0) hx hb dX4_figures_25 (by decide +kernel) ?_
          refine x_lcmp hx hb dX4_figures_26 (⟨sp_q_r hz1 q, by omega⟩) ?_
          refine x_if_eq (tgt := 61) hx hb dX4_figures_27 (by decide) (xcmp_r _ _) (fun c_27 => ?_) (fun c_27 => ?_)
          · have c_27 := xcmp_eq.mp c_27
            refine lv_lload_n hx hb dX4_figures_61 rfl (lv_at hl 1 rfl) ?_
            refine lv_lconst (v := xL 0) hx hb dX4_figures_62 (by decide +kernel) ?_
            refine x_lcmp hx hb dX4_figures_63 (⟨hz1, by omega⟩) ?_
            refine x_if_ge (tgt := 76) hx hb dX4_figures_64 (by decide) (xcmp_r _ _) (fun c_64 => ?_) (fun c_64 => ?_)
            · have c_64 := xcmp_ge.mp c_64
              refine lv_aload_n hx hb dX4_figures_76 rfl (lv_at hl 0 rfl) ?_
              refine x_get (T := TX4) (N := 6) hx hb hts uX4 hown hK hP (i := 0) (by omega) hC.1 rfl 5 (by decide) u_fl_RX4_39 rfl dX4_figures_77 ?_
              refine xm_v (i := 11) (As := []) (rest := []) ⟨hx, hb, hml, hown, hts⟩ hl.1 (c_X2_turnRound l D cA n ad ew12 _ (by omega) hr) k_X2_turnRound u_ml_RX4_108 hK hN hP (by omega) hr.1 rfl rfl rfl rfl (Nat.le_of_ble_eq_true rfl) ⟨Nat.le_of_ble_eq_true rfl, Nat.le_of_ble_eq_true rfl⟩ ⟨Nat.le_of_ble_eq_true rfl, Nat.le_of_ble_eq_true rfl⟩ dX4_figures_80 hD hS hA (fun en6 H locs hp6 hP hS => ?_)
              obtain ⟨hr, hos⟩ := hp6
              have hC := hC.spare hos hr
              have ho := ho.tr hos
              refine lv_aload_n hx hb dX4_figures_83 rfl (lv_at hl 0 rfl) ?_
              refine x_get (T := TX4) (N := 6) hx hb hts uX4 hown hK hP (i := 0) (by omega) hC.1 rfl 5 (by decide) u_fl_RX4_39 rfl dX4_figures_84 ?_
              have hE : q = sp_len z1 := by rw [← hL]; exact (sp_ln_f (by omega) (by omega)).symm
              exact xe_q hx hb hrt hlocks hP hS (r := some (ad 11)) rfl (⟨rfl, hr.to (by rw [sp_nn_p (by omega)]; exact hE) (fun t ht => by
        unfold sp_nf
        rw [if_neg (by omega), sp_nn_p (by omega), ← hE]
        exact hF _ (by omega)), ho⟩) dX4_figures_87
            · have c_64 := xcmp_lt.mp c_64
              refine lv_aload_n hx hb dX4_figures_67 rfl (lv_at hl 0 rfl) ?_
              refine x_get (T := TX4) (N := 6) hx hb hts uX4 hown hK hP (i := 0) (by omega) hC.1 rfl 5 (by decide) u_fl_RX4_39 rfl dX4_figures_68 ?_
              refine x_bipush hx hb dX4_figures_71 (by decide +kernel) ?_
              refine xm_v (i := 11) (As := [.int (xI 45)]) (rest := []) ⟨hx, hb, hml, hown, hts⟩ hl.1 (c_X2_add l D cA n ad ew12 _ (by omega) hr (by omega) 45 (by omega)) k_X2_add u_ml_RX4_48 hK hN hP (by omega) hr.1 rfl rfl rfl rfl (Nat.le_of_ble_eq_true rfl) ⟨Nat.le_of_ble_eq_true rfl, Nat.le_of_ble_eq_true rfl⟩ ⟨Nat.le_of_ble_eq_true rfl, Nat.le_of_ble_eq_true rfl⟩ dX4_figures_73 hD hS hA (fun en7 H locs hp7 hP hS => ?_)
              obtain ⟨hr, hos⟩ := hp7
              have hC := hC.spare hos hr
              have ho := ho.tr hos
              refine lv_aload_n hx hb dX4_figures_76 rfl (lv_at hl 0 rfl) ?_
              refine x_get (T := TX4) (N := 6) hx hb hts uX4 hown hK hP (i := 0) (by omega) hC.1 rfl 5 (by decide) u_fl_RX4_39 rfl dX4_figures_77 ?_
              refine xm_v (i := 11) (As := []) (rest := []) ⟨hx, hb, hml, hown, hts⟩ hl.1 (c_X2_turnRound l D cA n ad en7 _ (by omega) hr) k_X2_turnRound u_ml_RX4_108 hK hN hP (by omega) hr.1 rfl rfl rfl rfl (Nat.le_of_ble_eq_true rfl) ⟨Nat.le_of_ble_eq_true rfl, Nat.le_of_ble_eq_true rfl⟩ ⟨Nat.le_of_ble_eq_true rfl, Nat.le_of_ble_eq_true rfl⟩ dX4_figures_80 hD hS hA (fun en8 H locs hp8 hP hS => ?_)
              obtain ⟨hr, hos⟩ := hp8
              have hC := hC.spare hos hr
              have ho := ho.tr hos
              refine lv_aload_n hx hb dX4_figures_83 rfl (lv_at hl 0 rfl) ?_
              refine x_get (T := TX4) (N := 6) hx hb hts uX4 hown hK hP (i := 0) (by omega) hC.1 rfl 5 (by decide) u_fl_RX4_39 rfl dX4_figures_84 ?_
              have hE : q = sp_len z1 := by rw [← hL]; exact (sp_ln_f (by omega) (by omega)).symm
              exact xe_q hx hb hrt hlocks hP hS (r := some (ad 11)) rfl (⟨rfl, hr.to (by rw [sp_nn_n (by omega), ← hE]) (fun t ht => by
        unfold sp_nf
        rw [sp_nn_n (by omega), ← hE]
        by_cases q1 : t = 0
        · rw [if_pos ⟨by omega, q1⟩, q1, show q + 1 - 1 - 0 = q by omega, sp_up_s]
        · rw [if_neg (by omega), sp_up_n _ _ (by omega)]
          exact hF _ (by omega)), ho⟩) dX4_figures_87
          · have c_27 := xcmp_ne.mp c_27
            refine lv_aload_n hx hb dX4_figures_30 rfl (lv_at hl 0 rfl) ?_
            refine x_get (T := TX4) (N := 6) hx hb hts uX4 hown hK hP (i := 0) (by omega) hC.1 rfl 5 (by decide) u_fl_RX4_39 rfl dX4_figures_31 ?_
            refine x_bipush hx hb dX4_figures_34 (by decide +kernel) ?_
            refine lv_lload_n hx hb dX4_figures_36 rfl (lv_at hl 2 rfl) ?_
            refine x_ldc2 hx hb hown (hts _ u_ko_RX4_238) (k := 10) (by decide +kernel) dX4_figures_37 ?_
            refine x_lrem hx hb dX4_figures_40 (sp_q_r hz1 q) ?_
            refine x_l2i hx hb dX4_figures_41 ?_
            refine x_abs hx hb (hml.trans hl.1.symm) hts hown u_ml_RX4_240 (Nat.le_of_ble_eq_true rfl) (Nat.le_of_ble_eq_true rfl) (Nat.le_of_ble_eq_true rfl) (Nat.le_of_ble_eq_true rfl) (r := (if 0 ≤ (Int.tmod (sp_q z1 q) 10) then (Int.tmod (sp_q z1 q) 10) else -(Int.tmod (sp_q z1 q) 10))) (by have := sp_tm (sp_q z1 q); omega) (by omega) dX4_figures_42 ?_
            refine x_iadd hx hb dX4_figures_45 ?_
            refine x_to (sp_dg z1 q) (rfl) ?_
            refine xm_v (i := 11) (As := [.int (xI (sp_dg z1 q))]) (rest := []) ⟨hx, hb, hml, hown, hts⟩ hl.1 (c_X2_add l D cA n ad ew12 _ (by omega) hr (by omega) (sp_dg z1 q) (by have := sp_dg_b z1 q; omega)) k_X2_add u_ml_RX4_48 hK hN hP (by omega) hr.1 rfl rfl rfl rfl (Nat.le_of_ble_eq_true rfl) ⟨Nat.le_of_ble_eq_true rfl, Nat.le_of_ble_eq_true rfl⟩ ⟨Nat.le_of_ble_eq_true rfl, Nat.le_of_ble_eq_true rfl⟩ dX4_figures_46 hD hS hA (fun en9 H locs hp9 hP hS => ?_)
            obtain ⟨hr, hos⟩ := hp9
            have hC := hC.spare hos hr
            have ho := ho.tr hos
            refine lv_lload_n hx hb dX4_figures_49 rfl (lv_at hl 2 rfl) ?_
            refine x_ldc2 hx hb hown (hts _ u_ko_RX4_238) (k := 10) (by decide +kernel) dX4_figures_50 ?_
            refine x_ldiv hx hb dX4_figures_53 (sp_q_r hz1 q) ?_
            refine lv_lstore_n (lv' := [(3, .long (xL (sp_q z1 (q + 1)))), (0, .ref (ad 0)), (1, .long (xL z1)), (5, .int (xI (q : Int)))]) hx hb dX4_figures_54 rfl hl (by decide) rfl (fun ls hl => ?_)
            refine x_iinc (lv' := [(5, .int (xI ((q : Int) + 1))), (3, .long (xL (sp_q z1 (q + 1)))), (0, .ref (ad 0)), (1, .long (xL z1))]) (k := 3) hx hb dX4_figures_55 hl rfl (by decide) rfl (fun ls hl => ?_)
            refine lv_goto (tgt := 12) hx hb dX4_figures_58 (by decide) ?_
            exact ih (q + 1) _ en9 _ _ (by omega) ((sp_ln_t (by omega) (by omega)).symm.trans hL) (fun t ht => by
        by_cases q1 : t = q
        · rw [q1, sp_up_s]
        · rw [sp_up_n _ _ q1]
          exact hF t (by omega)) (by omega) hC hr ho hP hS ls (lv_sub hl [2, 3, 1, 0] rfl)
  exact L12 _ 0 f en1 _ _ (by omega) rfl (fun t ht => absurd ht (by omega)) (Nat.lt_succ_self _) hC hr ho hP hS ls (lv_sub hl [2, 3, 1, 0] rfl)

set_option maxRecDepth 20000 in
theorem c_X4_mixed (l : Launch) (w : Int64) (z1 : Int) (hz1 : -2147483648 ≤ z1 ∧ z1 ≤ 2147483647) : Met l yX4_mixed (Cond.code yX4_mixed cX4_mixed 3 (some .long) :: xU) (xrm 0 0) (va_Pc [.long w, .int (xI z1)] (fun _ => True)) (vp_Sl (fun z => z = sp_mix w z1)) 0 0 (fun _ => False) := by
  refine xmet (by decide) (Nat.le_of_ble_eq_true rfl) (fun p e s mm args below meth c ls hx hb hrt hml hown hts hlocks hname hB hl => ?_)
  have hl : lv_has ls 3 [(0, .long w), (2, .int (xI z1))] := hl
  refine x_ldc2 hx hb hown (hts _ u_ko_RX4_230) (k := 31) (by decide +kernel) dX4_mixed_0 ?_
  refine lv_lload_n hx hb dX4_mixed_3 rfl (lv_at hl 0 rfl) ?_
  refine lv_lmul hx hb dX4_mixed_4 ?_
  refine lv_iload_n hx hb dX4_mixed_5 rfl (lv_at hl 1 rfl) ?_
  refine x_i2l hx hb dX4_mixed_6 (by omega) ?_
  refine lv_ladd hx hb dX4_mixed_7 ?_
  exact xr_l hx hb hrt hlocks (rfl) dX4_mixed_8

set_option maxRecDepth 20000 in
theorem c_X4_mixedRow (l : Launch) (D : va_G) (cA : Nat → ClassId) (n : Nat) (ad : Nat → Nat) (en : Nat → va_E) {i m : Nat} {f : Nat → Int} (hi : i + 1 < n) (hr : XR cA ad en i m f) (w : Int64) (z1 z2 : Int) (h12 : 0 ≤ z1 ∧ z1 ≤ z2 ∧ z2 ≤ (m : Int)) : Met l yX4_mixedRow (Cond.code yX4_mixedRow cX4_mixedRow 8 (some .long) :: xU) (xrm 2 42) (va_Pc [.long w, .ref (ad i), .int (xI z1), .int (xI z2)] (xB D cA n ad en)) (vp_Sl (fun z => z = sp_hs f (sp_mix w (z2 - z1)) z1.toNat (z2 - z1).toNat)) 0 0 (fun _ => False) := by
  refine xmet (by decide) (Nat.le_of_ble_eq_true rfl) (fun p e s mm args below meth c ls hx hb hrt hml hown hts hlocks hname hB hl => ?_)
  obtain ⟨hP, hK, hN⟩ := hB
  have hl : lv_has ls 8 [(0, .long w), (2, .ref (ad i)), (3, .int (xI z1)), (4, .int (xI z2))] := hl
  have hm := hr.2.2.1
  refine lv_lload_n hx hb dX4_mixedRow_0 rfl (lv_at hl 0 rfl) ?_
  refine lv_iload hx hb dX4_mixedRow_1 (lv_at hl 3 rfl) ?_
  refine lv_iload_n hx hb dX4_mixedRow_3 rfl (lv_at hl 2 rfl) ?_
  refine x_isub hx hb dX4_mixedRow_4 ?_
  refine xt_l (As := [.long w, .int (xI (z2 - z1))]) (rest := []) ⟨hx, hb, hml, hown, hts⟩ hl.1 (c_X4_mixed l w (z2 - z1) (by omega)) k_X4_mixed u_ml_RX4_226 rfl rfl (Nat.le_of_ble_eq_true rfl) ⟨Nat.le_of_ble_eq_true rfl, Nat.le_of_ble_eq_true rfl⟩ ⟨Nat.le_of_ble_eq_true rfl, Nat.le_of_ble_eq_true rfl⟩ dX4_mixedRow_5 ?_
  refine lv_lstore (lv' := [(5, .long (sp_mix w (z2 - z1))), (0, .long w), (2, .ref (ad i)), (3, .int (xI z1)), (4, .int (xI z2))]) hx hb dX4_mixedRow_8 hl (by decide) rfl (fun ls hl => ?_)
  refine lv_iload_n hx hb dX4_mixedRow_10 rfl (lv_at hl 3 rfl) ?_
  refine lv_istore (lv' := [(7, .int (xI z1)), (5, .long (sp_mix w (z2 - z1))), (0, .long w), (2, .ref (ad i)), (3, .int (xI z1)), (4, .int (xI z2))]) hx hb dX4_mixedRow_11 hl (by decide) rfl (fun ls hl => ?_)
  have L13 : ∀ (nn : Nat) (a : Int) (al : Int64), (z1 ≤ a ∧ a ≤ z2) → (al = sp_hs f (sp_mix w (z2 - z1)) z1.toNat (a - z1).toNat) → ((z2 - a).toNat) < nn → ∀ ls : Array Slot, lv_has ls 8 [(2, .ref (ad i)), (3, .int (xI z1)), (4, .int (xI z2)), (5, .long al), (7, .int (xI a))] → W p l e (xrm 2 42) s mm args below meth c s.heap [] 0 0 (MQ below (vp_Sl (fun z => z = sp_hs f (sp_mix w (z2 - z1)) z1.toNat (z2 - z1).toNat)) args s 0 0 (fun _ => False)) (F0 mm 13 ls []) := by
    intro nn
    induction nn with
    | zero =>
      intro a al  ha hF hmm  ls hl
      exact absurd hmm (Nat.not_lt_zero _)
    | succ nn ih =>
      intro a al  ha hF hmm  ls hl
      refine lv_iload hx hb dX4_mixedRow_13 (lv_at hl 4 rfl) ?_
      refine lv_iload hx hb dX4_mixedRow_15 (lv_at hl 2 rfl) ?_
      refine x_icmp_ge (tgt := 39) hx hb dX4_mixedRow_17 (by decide) (by omega) (fun c_17 => ?_) (fun c_17 => ?_)
      · refine lv_lload hx hb dX4_mixedRow_39 (lv_at hl 3 rfl) ?_
        exact xr_l hx hb hrt hlocks (by rw [hF, show a = z2 by omega]) dX4_mixedRow_41
      · refine lv_lload hx hb dX4_mixedRow_20 (lv_at hl 3 rfl) ?_
        refine lv_aload_n hx hb dX4_mixedRow_22 rfl (lv_at hl 0 rfl) ?_
        refine lv_iload hx hb dX4_mixedRow_23 (lv_at hl 4 rfl) ?_
        refine xv_i (i := i) (As := [.int (xI a)]) (rest := [.long al]) ⟨hx, hb, hml, hown, hts⟩ hl.1 (c_X2_signThere l D cA n ad en (by omega) hr a (by omega)) k_X2_signThere u_ml_RX4_111 hK hN hP (by omega) hr.1 rfl rfl rfl rfl (Nat.le_of_ble_eq_true rfl) ⟨Nat.le_of_ble_eq_true rfl, Nat.le_of_ble_eq_true rfl⟩ ⟨Nat.le_of_ble_eq_true rfl, Nat.le_of_ble_eq_true rfl⟩ dX4_mixedRow_25 ?_
        refine xt_l (As := [.long al, .int (xI (f (Int.toNat a)))]) (rest := []) ⟨hx, hb, hml, hown, hts⟩ hl.1 (c_X4_mixed l al (f (Int.toNat a)) (by have := hr.2.2.2 a.toNat (by omega); omega)) k_X4_mixed u_ml_RX4_226 rfl rfl (Nat.le_of_ble_eq_true rfl) ⟨Nat.le_of_ble_eq_true rfl, Nat.le_of_ble_eq_true rfl⟩ ⟨Nat.le_of_ble_eq_true rfl, Nat.le_of_ble_eq_true rfl⟩ dX4_mixedRow_28 ?_
        refine lv_lstore (lv' := [(5, .long (sp_mix al (f (Int.toNat a)))), (2, .ref (ad i)), (3, .int (xI z1)), (4, .int (xI z2)), (7, .int (xI a))]) hx hb dX4_mixedRow_31 hl (by decide) rfl (fun ls hl => ?_)
        refine x_iinc (lv' := [(7, .int (xI (a + 1))), (5, .long (sp_mix al (f (Int.toNat a)))), (2, .ref (ad i)), (3, .int (xI z1)), (4, .int (xI z2))]) (k := 4) hx hb dX4_mixedRow_33 hl rfl (by decide) rfl (fun ls hl => ?_)
        refine lv_goto (tgt := 13) hx hb dX4_mixedRow_36 (by decide) ?_
        exact ih (a + 1) _ (by omega) (by rw [hF, show (a + 1 - z1).toNat = (a - z1).toNat + 1 by omega, sp_hs, show z1.toNat + (a - z1).toNat = a.toNat by omega]) (by omega)  ls (lv_sub hl [2, 3, 4, 1, 0] rfl)
  exact L13 _ z1 (sp_mix w (z2 - z1)) (by omega) (by rw [show (z1 - z1).toNat = 0 by omega]; rfl) (Nat.lt_succ_self _)  ls (lv_sub hl [3, 4, 5, 1, 0] rfl)

set_option maxRecDepth 20000 in
theorem c_X4_isSign (l : Launch) (z1 : Int) (hz1 : -2147483648 ≤ z1 ∧ z1 ≤ 2147483647) : Met l yX4_isSign (Cond.code yX4_isSign cX4_isSign 1 (some .boolean) :: xU) (xrm 0 0) (va_Pc [.int (xI z1)] (fun _ => True)) (vp_Si (fun z => z = xb (0 ≤ z1 ∧ z1 < 256))) 0 0 (fun _ => False) := by
  refine xmet (by decide) (Nat.le_of_ble_eq_true rfl) (fun p e s mm args below meth c ls hx hb hrt hml hown hts hlocks hname hB hl => ?_)
  have hl : lv_has ls 1 [(0, .int (xI z1))] := hl
  refine lv_iload_n hx hb dX4_isSign_0 rfl (lv_at hl 0 rfl) ?_
  refine x_if_lt (tgt := 15) hx hb dX4_isSign_1 (by decide) (by omega) (fun c_1 => ?_) (fun c_1 => ?_)
  · refine x_iconst hx hb dX4_isSign_15 ?_
    exact xr_z hx hb hrt hlocks (xb_0 (by omega)) dX4_isSign_16
  · refine lv_iload_n hx hb dX4_isSign_4 rfl (lv_at hl 0 rfl) ?_
    refine x_sipush hx hb dX4_isSign_5 (by decide +kernel) ?_
    refine x_icmp_ge (tgt := 15) hx hb dX4_isSign_8 (by decide) (by omega) (fun c_8 => ?_) (fun c_8 => ?_)
    · refine x_iconst hx hb dX4_isSign_15 ?_
      exact xr_z hx hb hrt hlocks (xb_0 (by omega)) dX4_isSign_16
    · refine x_iconst hx hb dX4_isSign_11 ?_
      refine lv_goto (tgt := 16) hx hb dX4_isSign_12 (by decide) ?_
      exact xr_z hx hb hrt hlocks (xb_1 (by omega)) dX4_isSign_16

set_option maxRecDepth 20000 in
theorem c_X4_isSeparator (l : Launch) (z1 : Int) (hz1 : -2147483648 ≤ z1 ∧ z1 ≤ 2147483647) : Met l yX4_isSeparator (Cond.code yX4_isSeparator cX4_isSeparator 2 (some .boolean) :: xU) (xrm 1 20) (va_Pc [.int (xI z1)] xZ) (vp_Si (fun z => z = xb (sp_sepok z1))) 0 0 (fun _ => False) := by
  refine xmet (by decide) (Nat.le_of_ble_eq_true rfl) (fun p e s mm args below meth c ls hx hb hrt hml hown hts hlocks hname hB hl => ?_)
  have hl : lv_has ls 2 [(0, .int (xI z1))] := hl
  have hown : s.vm.findClass RX4 = some mm.cls := hown
  obtain ⟨tN, hZ1, hZ2⟩ := hB
  refine x_iconst hx hb dX4_isSeparator_0 ?_
  refine lv_istore_n (lv' := [(1, .int (xI 0)), (0, .int (xI z1))]) hx hb dX4_isSeparator_1 rfl hl (by decide) rfl (fun ls hl => ?_)
  have L2 : ∀ (nn : Nat) (a : Int), (0 ≤ a ∧ a ≤ 12) → (∀ j : Nat, (j : Int) < a → ¬ sp_nosl j = z1) → ((12 - a).toNat) < nn → ∀ ls : Array Slot, lv_has ls 2 [(0, .int (xI z1)), (1, .int (xI a))] → W p l e (xrm 1 20) s mm args below meth c s.heap [] 0 0 (MQ below (vp_Si (fun z => z = xb (sp_sepok z1))) args s 0 0 (fun _ => False)) (F0 mm 2 ls []) := by
    intro nn
    induction nn with
    | zero =>
      intro a  ha hF hmm  ls hl
      exact absurd hmm (Nat.not_lt_zero _)
    | succ nn ih =>
      intro a  ha hF hmm  ls hl
      refine lv_iload_n hx hb dX4_isSeparator_2 rfl (lv_at hl 1 rfl) ?_
      refine va_gets hx hb hZ1 va_S.rf hown (hts _ u_fl_RX4_232) (fun _ h => h) dX4_isSeparator_3 ?_
      refine va_tlen hx hb hZ2 va_S.rf (v := xI 12) (by decide +kernel) dX4_isSeparator_6 ?_
      refine x_icmp_ge (tgt := 27) hx hb dX4_isSeparator_7 (by decide) (by omega) (fun c_7 => ?_) (fun c_7 => ?_)
      · refine lv_iload_n hx hb dX4_isSeparator_27 rfl (lv_at hl 0 rfl) ?_
        refine xt_i (As := [.int (xI z1)]) (rest := []) ⟨hx, hb, hml, hown, hts⟩ hl.1 (c_X4_isSign l z1 (by omega)) k_X4_isSign u_ml_RX4_56 rfl rfl (Nat.le_of_ble_eq_true rfl) ⟨Nat.le_of_ble_eq_true rfl, Nat.le_of_ble_eq_true rfl⟩ ⟨Nat.le_of_ble_eq_true rfl, Nat.le_of_ble_eq_true rfl⟩ dX4_isSeparator_28 ?_
        exact xr_z hx hb hrt hlocks (xb_iff ⟨fun q => ⟨q, fun j hj => hF j (by omega)⟩, fun q => q.1⟩) dX4_isSeparator_31
      · refine va_gets hx hb hZ1 va_S.rf hown (hts _ u_fl_RX4_232) (fun _ h => h) dX4_isSeparator_10 ?_
        refine lv_iload_n hx hb dX4_isSeparator_13 rfl (lv_at hl 1 rfl) ?_
        refine va_ti hx hb hZ2 va_S.rf (xI_in (by omega)) (v := .int (xI (sp_nosl (Int.toNat a)))) (by rw [xI_clamp (by omega)]) dX4_isSeparator_14 ?_
        refine lv_iload_n hx hb dX4_isSeparator_15 rfl (lv_at hl 0 rfl) ?_
        refine x_icmp_ne (tgt := 21) hx hb dX4_isSeparator_16 (by decide) (by have := sp_nosl_b (Int.toNat a); omega) (fun c_16 => ?_) (fun c_16 => ?_)
        · refine x_iinc (lv' := [(1, .int (xI (a + 1))), (0, .int (xI z1))]) (k := 1) hx hb dX4_isSeparator_21 hl rfl (by decide) rfl (fun ls hl => ?_)
          refine lv_goto (tgt := 2) hx hb dX4_isSeparator_24 (by decide) ?_
          exact ih (a + 1) (by omega) (fun j hj => by
        by_cases q : (j : Int) = a
        · rw [show j = a.toNat by omega]; exact c_16
        · exact hF j (by omega)) (by omega)  ls (lv_sub hl [1, 0] rfl)
        · refine x_iconst hx hb dX4_isSeparator_19 ?_
          exact xr_z hx hb hrt hlocks (xb_0 (fun q => q.2 a.toNat (by omega) c_16)) dX4_isSeparator_20
  exact L2 _ 0 (by omega) (fun j hj => absurd hj (by omega)) (Nat.lt_succ_self _)  ls (lv_sub hl [1, 0] rfl)
