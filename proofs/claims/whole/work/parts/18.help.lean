/-! the object's own helpers -/
section CWP
variable {cA : Nat → ClassId} {ad : Nat → Nat} {en : Nat → va_E} {S : xSt}
theorem CW.rb (h : CW cA ad en S) {b : Nat} (hb : b < 4) : XR cA ad en (13 + 2 * b) (S.1 b).1 (S.1 b).2 := h.2.2.2.2.2.2.2.1 b hb
theorem CW.rt (h : CW cA ad en S) {t : Nat} (ht : t < 8) : XT cA ad en (21 + 3 * t) (S.2.1 t) := h.2.2.2.2.2.2.2.2.1 t ht
theorem CW.rc (h : CW cA ad en S) {c : Nat} (hc : c < 2) : XC cA ad en (45 + 4 * c) (S.2.2.2 c) := h.2.2.2.2.2.2.2.2.2 c hc
theorem CW.rp (h : CW cA ad en S) : XP cA ad en S.2.2.1 := h.2.2.2.2.1
theorem CW.r4 (h : CW cA ad en S) : XR cA ad en 9 4 sp_four := h.2.2.2.2.2.1
theorem CW.rs (h : CW cA ad en S) : ∃ (m : Nat) (f : Nat → Int), XR cA ad en 11 m f := h.2.2.2.2.2.2.1
end CWP
/-! numbers as signs -/
def sp_q (z : Int) : Nat → Int
  | 0 => z
  | k + 1 => (sp_q z k).tdiv 10
def sp_dg (z : Int) (k : Nat) : Int := 48 + (if 0 ≤ (sp_q z k).tmod 10 then (sp_q z k).tmod 10 else -((sp_q z k).tmod 10))
theorem sp_tm (a : Int) : -9 ≤ a.tmod 10 ∧ a.tmod 10 ≤ 9 := by
  have h1 := Int.tmod_lt_of_pos a (show (0 : Int) < 10 by decide)
  have h2 := Int.lt_tmod_of_pos a (show (0 : Int) < 10 by decide)
  omega
theorem sp_dg_b (z : Int) (k : Nat) : 48 ≤ sp_dg z k ∧ sp_dg z k ≤ 57 := by
  have h := sp_tm (sp_q z k)
  unfold sp_dg
  split <;> omega
def sp_ln (z : Int) : Nat → Nat → Nat
  | 0, i => i
  | k + 1, i => if i = 0 ∨ ¬ sp_q z i = 0 then sp_ln z k (i + 1) else i
def sp_len (z : Int) : Nat := sp_ln z 19 0
theorem sp_ln_t {z : Int} {i : Nat} (h : i < 19) (hc : i = 0 ∨ ¬ sp_q z i = 0) : sp_ln z (19 - i) i = sp_ln z (19 - (i + 1)) (i + 1) := by
  rw [show 19 - i = 19 - (i + 1) + 1 by omega, sp_ln, if_pos hc]
theorem sp_ln_f {z : Int} {i : Nat} (h : i < 19) (hc : ¬ (i = 0 ∨ ¬ sp_q z i = 0)) : sp_ln z (19 - i) i = i := by
  rw [show 19 - i = 19 - (i + 1) + 1 by omega, sp_ln, if_neg hc]
theorem sp_ln_e {z : Int} {i : Nat} (h : 19 ≤ i) : sp_ln z (19 - i) i = i := by
  rw [show 19 - i = 0 by omega, sp_ln]
def sp_nn (z : Int) : Nat := sp_len z + (if z < 0 then 1 else 0)
def sp_nf (z : Int) : Nat → Int := fun k => if z < 0 ∧ k = 0 then 45 else sp_dg z (sp_nn z - 1 - k)
theorem sp_nn_n {z : Int} (h : z < 0) : sp_nn z = sp_len z + 1 := by unfold sp_nn; rw [if_pos h]
theorem sp_nn_p {z : Int} (h : ¬ z < 0) : sp_nn z = sp_len z := by unfold sp_nn; rw [if_neg h]; rfl
theorem sp_q_r {z : Int} (h : -9223372036854775808 ≤ z ∧ z ≤ 9223372036854775807) : ∀ k : Nat, -9223372036854775808 ≤ sp_q z k ∧ sp_q z k ≤ 9223372036854775807
  | 0 => h
  | k + 1 => by
    have ih := sp_q_r h k
    have e : (sp_q z (k + 1)).natAbs = (sp_q z k).natAbs / 10 := by rw [sp_q, Int.natAbs_tdiv]; rfl
    omega
theorem sp_q_n (z : Int) : ∀ k : Nat, (sp_q z k).natAbs = z.natAbs / 10 ^ k
  | 0 => by rw [sp_q, Nat.pow_zero, Nat.div_one]
  | k + 1 => by
    have e : (sp_q z (k + 1)).natAbs = (sp_q z k).natAbs / 10 := by rw [sp_q, Int.natAbs_tdiv]; rfl
    rw [e, sp_q_n z k, Nat.div_div_eq_div_mul, Nat.pow_succ]
theorem sp_q_19 {z : Int} (h : -9223372036854775808 ≤ z ∧ z ≤ 9223372036854775807) : sp_q z 19 = 0 := by
  have e := sp_q_n z 19
  rw [Nat.div_eq_of_lt (by omega)] at e
  omega
section XRD
variable {p : Program} {l : Launch} {e : Env} {R : Room} {s : State} {m : MethodId} {args : Array Value} {below : List Frame} {meth : Method} {c : Code} {H : Heap} {locs : List Loc} {cells slots : Nat} {Q : State → Prop}
variable {cc : ByteArray} {pc : Nat} {ls : Array Slot} {rest : List Value}
theorem xL_div {a : Int} (h : -9223372036854775808 ≤ a ∧ a ≤ 9223372036854775807) : xL a / xL 10 = xL (a.tdiv 10) := (Int64.ofInt_tdiv (a := a) (b := 10) (by show (-9223372036854775808 : Int) ≤ a; exact h.1) (by show a ≤ (9223372036854775807 : Int); exact h.2) (by decide) (by decide)).symm
theorem xL_rem {a : Int} (h : -9223372036854775808 ≤ a ∧ a ≤ 9223372036854775807) : xL a - xL a / xL 10 * xL 10 = xL (a.tmod 10) := by
  rw [xL_div h, xL_mul]
  have e2 : xL a - xL (a.tdiv 10 * 10) = xL (a - a.tdiv 10 * 10) := (Int64.ofInt_sub a _).symm
  rw [e2]
  rw [Int.tmod_def, Int.mul_comm]
theorem xL_10 : ¬ xL 10 = 0 := by decide +kernel
theorem x_ldiv (hx : p.tables.exec = Jvm.exec) (hb : c.code = cc) {a : Int} (hdg : decode cc pc = .ok (.ldiv, 1)) (ha : -9223372036854775808 ≤ a ∧ a ≤ 9223372036854775807) (kk : W p l e R s m args below meth c H locs cells slots Q (F0 m (pc + 1) ls (.long (xL (a.tdiv 10)) :: rest))) : W p l e R s m args below meth c H locs cells slots Q (F0 m pc ls (.long (xL 10) :: .long (xL a) :: rest)) := lv_ldiv hx hb hdg xL_10 (by rw [xL_div ha]; exact kk)
theorem x_lrem (hx : p.tables.exec = Jvm.exec) (hb : c.code = cc) {a : Int} (hdg : decode cc pc = .ok (.lrem, 1)) (ha : -9223372036854775808 ≤ a ∧ a ≤ 9223372036854775807) (kk : W p l e R s m args below meth c H locs cells slots Q (F0 m (pc + 1) ls (.long (xL (a.tmod 10)) :: rest))) : W p l e R s m args below meth c H locs cells slots Q (F0 m pc ls (.long (xL 10) :: .long (xL a) :: rest)) := lv_lrem hx hb hdg xL_10 (by rw [xL_rem ha]; exact kk)
theorem x_l2i (hx : p.tables.exec = Jvm.exec) (hb : c.code = cc) {a : Int} (hdg : decode cc pc = .ok (.l2i, 1)) (kk : W p l e R s m args below meth c H locs cells slots Q (F0 m (pc + 1) ls (.int (xI a) :: rest))) : W p l e R s m args below meth c H locs cells slots Q (F0 m pc ls (.long (xL a) :: rest)) := lv_l2i (v := xI a) hx hb hdg (xL_i a) kk
end XRD
/-! letters -/
def sp_by (w : Int64) (k : Nat) : Int := (((w.toBitVec.toNat / 2 ^ (8 * k)) % 256 : Nat) : Int)
theorem sp_by_b (w : Int64) (k : Nat) : 0 ≤ sp_by w k ∧ sp_by w k ≤ 255 := by unfold sp_by; omega
theorem sp_by_u (w : Int64) {k : Nat} (hk : k < 8) : (w.toUInt64 >>> ((xI (8 * (k : Int))).toInt64.toUInt64 &&& Int64.toUInt64 63)).toInt64.toInt32 &&& xI 255 = xI (sp_by w k) := by
  have e1 : ((xI (8 * (k : Int))).toInt64.toUInt64 &&& Int64.toUInt64 63).toNat % 64 = 8 * k := by
    rcases (show k = 0 ∨ k = 1 ∨ k = 2 ∨ k = 3 ∨ k = 4 ∨ k = 5 ∨ k = 6 ∨ k = 7 by omega) with rfl | rfl | rfl | rfl | rfl | rfl | rfl | rfl <;> decide +kernel
  have e2 : (w.toUInt64 >>> ((xI (8 * (k : Int))).toInt64.toUInt64 &&& Int64.toUInt64 63)).toInt64.toBitVec.toNat = w.toBitVec.toNat / 2 ^ (8 * k) := by
    show (w.toUInt64 >>> ((xI (8 * (k : Int))).toInt64.toUInt64 &&& Int64.toUInt64 63)).toNat = _
    rw [UInt64.toNat_shiftRight, e1, Nat.shiftRight_eq_div_pow]
    rfl
  generalize (w.toUInt64 >>> ((xI (8 * (k : Int))).toInt64.toUInt64 &&& Int64.toUInt64 63)).toInt64 = y at e2 ⊢
  have e3 : y.toInt32 &&& xI 255 = nI (y.toInt32.toBitVec.toNat % 2 ^ 8) := pk_and _ 8 (by decide +kernel)
  rw [e3]
  have e4 : y.toInt32.toBitVec.toNat % 2 ^ 8 = (w.toBitVec.toNat / 2 ^ (8 * k)) % 256 := by
    have e5 : y.toInt32.toBitVec.toNat = y.toBitVec.toNat % 2 ^ 32 := by
      show (BitVec.signExtend 32 y.toBitVec).toNat = _
      rw [BitVec.signExtend_eq_setWidth_of_le _ (by decide), BitVec.toNat_setWidth]
    rw [e5, e2]
    omega
  rw [e4]
  exact xI_nat _
/-! sums of what there is -/
def sp_mix (h : Int64) (z : Int) : Int64 := xL 31 * h + xL z
def sp_hs (f : Nat → Int) (h : Int64) (a : Nat) : Nat → Int64
  | 0 => h
  | k + 1 => sp_mix (sp_hs f h a k) (f (a + k))

set_option maxRecDepth 20000 in
theorem c_X4_builderOf_in (l : Launch) (D : va_G) (cA : Nat → ClassId) (n : Nat) (ad : Nat → Nat) (en : Nat → va_E) (hn : 53 ≤ n) {S : xSt} (hC : CW cA ad en S) (b : Nat) (hb4 : b < 4) : Met l yX4_builderOf (Cond.code yX4_builderOf cX4_builderOf 2 (some (.object "RowsOfSigns$Row")) :: xU) (xrm 0 0) (va_Pc [.ref (ad 0), .int (xI (b : Int))] (xB D cA n ad en)) (va_Sq (fun z => z = some (ad (13 + 2 * b)))) 0 0 (fun _ => False) := by
  refine xmet (by decide) (Nat.le_of_ble_eq_true rfl) (fun p e s mm args below meth c ls hx hb hrt hml hown hts hlocks hname hB hl => ?_)
  obtain ⟨hP, hK, hN⟩ := hB
  have hl : lv_has ls 2 [(0, .ref (ad 0)), (1, .int (xI (b : Int)))] := hl
  obtain ⟨g, hg1, hg2⟩ := hC.2.1
  refine lv_iload_n hx hb dX4_builderOf_0 rfl (lv_at hl 1 rfl) ?_
  refine x_if_lt (tgt := 22) hx hb dX4_builderOf_1 (by decide) (by omega) (fun c_1 => absurd c_1 (by omega)) (fun c_1 => ?_)
  refine lv_iload_n hx hb dX4_builderOf_4 rfl (lv_at hl 1 rfl) ?_
  refine lv_aload_n hx hb dX4_builderOf_5 rfl (lv_at hl 0 rfl) ?_
  refine x_get (T := TX4) (N := 6) hx hb hts uX4 hown hK hP (i := 0) (by omega) hC.1 rfl 0 (by decide) u_fl_RX4_11 rfl dX4_builderOf_6 ?_
  refine x_alen hx hb hK hP (i := 1) (by omega) 2 hg1 rfl dX4_builderOf_9 ?_
  refine x_icmp_ge (tgt := 22) hx hb dX4_builderOf_10 (by decide) (by omega) (fun c_10 => absurd c_10 (by omega)) (fun c_10 => ?_)
  refine lv_aload_n hx hb dX4_builderOf_13 rfl (lv_at hl 0 rfl) ?_
  refine x_get (T := TX4) (N := 6) hx hb hts uX4 hown hK hP (i := 0) (by omega) hC.1 rfl 0 (by decide) u_fl_RX4_11 rfl dX4_builderOf_14 ?_
  refine lv_iload_n hx hb dX4_builderOf_17 rfl (lv_at hl 1 rfl) ?_
  refine x_qld hx hb hK hP (i := 1) (by omega) 2 hg1 rfl (a := ad (13 + 2 * b)) (by omega) (by rw [show Int.toNat (b : Int) = b by omega]; exact hg2 b hb4) dX4_builderOf_18 ?_
  refine lv_goto (tgt := 23) hx hb dX4_builderOf_19 (by decide) ?_
  exact xr_q hx hb hrt hlocks (rfl) dX4_builderOf_23

set_option maxRecDepth 20000 in
theorem c_X4_builderOf_out (l : Launch) (D : va_G) (cA : Nat → ClassId) (n : Nat) (ad : Nat → Nat) (en : Nat → va_E) (hn : 53 ≤ n) {S : xSt} (hC : CW cA ad en S) (z1 : Int) (hz1 : -2147483648 ≤ z1 ∧ z1 ≤ 2147483647) (h1 : ¬ (0 ≤ z1 ∧ z1 < 4)) : Met l yX4_builderOf (Cond.code yX4_builderOf cX4_builderOf 2 (some (.object "RowsOfSigns$Row")) :: xU) (xrm 0 0) (va_Pc [.ref (ad 0), .int (xI z1)] (xB D cA n ad en)) (va_Sq (fun z => z = none)) 0 0 (fun _ => False) := by
  refine xmet (by decide) (Nat.le_of_ble_eq_true rfl) (fun p e s mm args below meth c ls hx hb hrt hml hown hts hlocks hname hB hl => ?_)
  obtain ⟨hP, hK, hN⟩ := hB
  have hl : lv_has ls 2 [(0, .ref (ad 0)), (1, .int (xI z1))] := hl
  obtain ⟨g, hg1, hg2⟩ := hC.2.1
  refine lv_iload_n hx hb dX4_builderOf_0 rfl (lv_at hl 1 rfl) ?_
  refine x_if_lt (tgt := 22) hx hb dX4_builderOf_1 (by decide) (by omega) (fun c_1 => ?_) (fun c_1 => ?_)
  · refine lv_null hx hb dX4_builderOf_22 ?_
    exact xr_q hx hb hrt hlocks (rfl) dX4_builderOf_23
  · refine lv_iload_n hx hb dX4_builderOf_4 rfl (lv_at hl 1 rfl) ?_
    refine lv_aload_n hx hb dX4_builderOf_5 rfl (lv_at hl 0 rfl) ?_
    refine x_get (T := TX4) (N := 6) hx hb hts uX4 hown hK hP (i := 0) (by omega) hC.1 rfl 0 (by decide) u_fl_RX4_11 rfl dX4_builderOf_6 ?_
    refine x_alen hx hb hK hP (i := 1) (by omega) 2 hg1 rfl dX4_builderOf_9 ?_
    refine x_icmp_ge (tgt := 22) hx hb dX4_builderOf_10 (by decide) (by omega) (fun c_10 => ?_) (fun c_10 => absurd c_10 (by omega))
    refine lv_null hx hb dX4_builderOf_22 ?_
    exact xr_q hx hb hrt hlocks (rfl) dX4_builderOf_23

set_option maxRecDepth 20000 in
theorem c_X4_textOf_in (l : Launch) (D : va_G) (cA : Nat → ClassId) (n : Nat) (ad : Nat → Nat) (en : Nat → va_E) (hn : 53 ≤ n) {S : xSt} (hC : CW cA ad en S) (b : Nat) (hb4 : b < 8) : Met l yX4_textOf (Cond.code yX4_textOf cX4_textOf 2 (some (.object "RowsOfSigns$Text")) :: xU) (xrm 0 0) (va_Pc [.ref (ad 0), .int (xI (b : Int))] (xB D cA n ad en)) (va_Sq (fun z => z = some (ad (21 + 3 * b)))) 0 0 (fun _ => False) := by
  refine xmet (by decide) (Nat.le_of_ble_eq_true rfl) (fun p e s mm args below meth c ls hx hb hrt hml hown hts hlocks hname hB hl => ?_)
  obtain ⟨hP, hK, hN⟩ := hB
  have hl : lv_has ls 2 [(0, .ref (ad 0)), (1, .int (xI (b : Int)))] := hl
  obtain ⟨g, hg1, hg2⟩ := hC.2.2.1
  refine lv_iload_n hx hb dX4_textOf_0 rfl (lv_at hl 1 rfl) ?_
  refine x_if_lt (tgt := 22) hx hb dX4_textOf_1 (by decide) (by omega) (fun c_1 => absurd c_1 (by omega)) (fun c_1 => ?_)
  refine lv_iload_n hx hb dX4_textOf_4 rfl (lv_at hl 1 rfl) ?_
  refine lv_aload_n hx hb dX4_textOf_5 rfl (lv_at hl 0 rfl) ?_
  refine x_get (T := TX4) (N := 6) hx hb hts uX4 hown hK hP (i := 0) (by omega) hC.1 rfl 1 (by decide) u_fl_RX4_17 rfl dX4_textOf_6 ?_
  refine x_alen hx hb hK hP (i := 2) (by omega) 3 hg1 rfl dX4_textOf_9 ?_
  refine x_icmp_ge (tgt := 22) hx hb dX4_textOf_10 (by decide) (by omega) (fun c_10 => absurd c_10 (by omega)) (fun c_10 => ?_)
  refine lv_aload_n hx hb dX4_textOf_13 rfl (lv_at hl 0 rfl) ?_
  refine x_get (T := TX4) (N := 6) hx hb hts uX4 hown hK hP (i := 0) (by omega) hC.1 rfl 1 (by decide) u_fl_RX4_17 rfl dX4_textOf_14 ?_
  refine lv_iload_n hx hb dX4_textOf_17 rfl (lv_at hl 1 rfl) ?_
  refine x_qld hx hb hK hP (i := 2) (by omega) 3 hg1 rfl (a := ad (21 + 3 * b)) (by omega) (by rw [show Int.toNat (b : Int) = b by omega]; exact hg2 b hb4) dX4_textOf_18 ?_
  refine lv_goto (tgt := 23) hx hb dX4_textOf_19 (by decide) ?_
  exact xr_q hx hb hrt hlocks (rfl) dX4_textOf_23

set_option maxRecDepth 20000 in
theorem c_X4_textOf_out (l : Launch) (D : va_G) (cA : Nat → ClassId) (n : Nat) (ad : Nat → Nat) (en : Nat → va_E) (hn : 53 ≤ n) {S : xSt} (hC : CW cA ad en S) (z1 : Int) (hz1 : -2147483648 ≤ z1 ∧ z1 ≤ 2147483647) (h1 : ¬ (0 ≤ z1 ∧ z1 < 8)) : Met l yX4_textOf (Cond.code yX4_textOf cX4_textOf 2 (some (.object "RowsOfSigns$Text")) :: xU) (xrm 0 0) (va_Pc [.ref (ad 0), .int (xI z1)] (xB D cA n ad en)) (va_Sq (fun z => z = none)) 0 0 (fun _ => False) := by
  refine xmet (by decide) (Nat.le_of_ble_eq_true rfl) (fun p e s mm args below meth c ls hx hb hrt hml hown hts hlocks hname hB hl => ?_)
  obtain ⟨hP, hK, hN⟩ := hB
  have hl : lv_has ls 2 [(0, .ref (ad 0)), (1, .int (xI z1))] := hl
  obtain ⟨g, hg1, hg2⟩ := hC.2.2.1
  refine lv_iload_n hx hb dX4_textOf_0 rfl (lv_at hl 1 rfl) ?_
  refine x_if_lt (tgt := 22) hx hb dX4_textOf_1 (by decide) (by omega) (fun c_1 => ?_) (fun c_1 => ?_)
  · refine lv_null hx hb dX4_textOf_22 ?_
    exact xr_q hx hb hrt hlocks (rfl) dX4_textOf_23
  · refine lv_iload_n hx hb dX4_textOf_4 rfl (lv_at hl 1 rfl) ?_
    refine lv_aload_n hx hb dX4_textOf_5 rfl (lv_at hl 0 rfl) ?_
    refine x_get (T := TX4) (N := 6) hx hb hts uX4 hown hK hP (i := 0) (by omega) hC.1 rfl 1 (by decide) u_fl_RX4_17 rfl dX4_textOf_6 ?_
    refine x_alen hx hb hK hP (i := 2) (by omega) 3 hg1 rfl dX4_textOf_9 ?_
    refine x_icmp_ge (tgt := 22) hx hb dX4_textOf_10 (by decide) (by omega) (fun c_10 => ?_) (fun c_10 => absurd c_10 (by omega))
    refine lv_null hx hb dX4_textOf_22 ?_
    exact xr_q hx hb hrt hlocks (rfl) dX4_textOf_23

set_option maxRecDepth 20000 in
theorem c_X4_cutterOf_in (l : Launch) (D : va_G) (cA : Nat → ClassId) (n : Nat) (ad : Nat → Nat) (en : Nat → va_E) (hn : 53 ≤ n) {S : xSt} (hC : CW cA ad en S) (b : Nat) (hb4 : b < 2) : Met l yX4_cutterOf (Cond.code yX4_cutterOf cX4_cutterOf 2 (some (.object "RowsOfSigns$Cutter")) :: xU) (xrm 0 0) (va_Pc [.ref (ad 0), .int (xI (b : Int))] (xB D cA n ad en)) (va_Sq (fun z => z = some (ad (45 + 4 * b)))) 0 0 (fun _ => False) := by
  refine xmet (by decide) (Nat.le_of_ble_eq_true rfl) (fun p e s mm args below meth c ls hx hb hrt hml hown hts hlocks hname hB hl => ?_)
  obtain ⟨hP, hK, hN⟩ := hB
  have hl : lv_has ls 2 [(0, .ref (ad 0)), (1, .int (xI (b : Int)))] := hl
  obtain ⟨g, hg1, hg2⟩ := hC.2.2.2.1
  refine lv_iload_n hx hb dX4_cutterOf_0 rfl (lv_at hl 1 rfl) ?_
  refine x_if_lt (tgt := 22) hx hb dX4_cutterOf_1 (by decide) (by omega) (fun c_1 => absurd c_1 (by omega)) (fun c_1 => ?_)
  refine lv_iload_n hx hb dX4_cutterOf_4 rfl (lv_at hl 1 rfl) ?_
  refine lv_aload_n hx hb dX4_cutterOf_5 rfl (lv_at hl 0 rfl) ?_
  refine x_get (T := TX4) (N := 6) hx hb hts uX4 hown hK hP (i := 0) (by omega) hC.1 rfl 2 (by decide) u_fl_RX4_23 rfl dX4_cutterOf_6 ?_
  refine x_alen hx hb hK hP (i := 3) (by omega) 4 hg1 rfl dX4_cutterOf_9 ?_
  refine x_icmp_ge (tgt := 22) hx hb dX4_cutterOf_10 (by decide) (by omega) (fun c_10 => absurd c_10 (by omega)) (fun c_10 => ?_)
  refine lv_aload_n hx hb dX4_cutterOf_13 rfl (lv_at hl 0 rfl) ?_
  refine x_get (T := TX4) (N := 6) hx hb hts uX4 hown hK hP (i := 0) (by omega) hC.1 rfl 2 (by decide) u_fl_RX4_23 rfl dX4_cutterOf_14 ?_
  refine lv_iload_n hx hb dX4_cutterOf_17 rfl (lv_at hl 1 rfl) ?_
  refine x_qld hx hb hK hP (i := 3) (by omega) 4 hg1 rfl (a := ad (45 + 4 * b)) (by omega) (by rw [show Int.toNat (b : Int) = b by omega]; exact hg2 b hb4) dX4_cutterOf_18 ?_
  refine lv_goto (tgt := 23) hx hb dX4_cutterOf_19 (by decide) ?_
  exact xr_q hx hb hrt hlocks (rfl) dX4_cutterOf_23

set_option maxRecDepth 20000 in
theorem c_X4_cutterOf_out (l : Launch) (D : va_G) (cA : Nat → ClassId) (n : Nat) (ad : Nat → Nat) (en : Nat → va_E) (hn : 53 ≤ n) {S : xSt} (hC : CW cA ad en S) (z1 : Int) (hz1 : -2147483648 ≤ z1 ∧ z1 ≤ 2147483647) (h1 : ¬ (0 ≤ z1 ∧ z1 < 2)) : Met l yX4_cutterOf (Cond.code yX4_cutterOf cX4_cutterOf 2 (some (.object "RowsOfSigns$Cutter")) :: xU) (xrm 0 0) (va_Pc [.ref (ad 0), .int (xI z1)] (xB D cA n ad en)) (va_Sq (fun z => z = none)) 0 0 (fun _ => False) := by
  refine xmet (by decide) (Nat.le_of_ble_eq_true rfl) (fun p e s mm args below meth c ls hx hb hrt hml hown hts hlocks hname hB hl => ?_)
  obtain ⟨hP, hK, hN⟩ := hB
  have hl : lv_has ls 2 [(0, .ref (ad 0)), (1, .int (xI z1))] := hl
  obtain ⟨g, hg1, hg2⟩ := hC.2.2.2.1
  refine lv_iload_n hx hb dX4_cutterOf_0 rfl (lv_at hl 1 rfl) ?_
  refine x_if_lt (tgt := 22) hx hb dX4_cutterOf_1 (by decide) (by omega) (fun c_1 => ?_) (fun c_1 => ?_)
  · refine lv_null hx hb dX4_cutterOf_22 ?_
    exact xr_q hx hb hrt hlocks (rfl) dX4_cutterOf_23
  · refine lv_iload_n hx hb dX4_cutterOf_4 rfl (lv_at hl 1 rfl) ?_
    refine lv_aload_n hx hb dX4_cutterOf_5 rfl (lv_at hl 0 rfl) ?_
    refine x_get (T := TX4) (N := 6) hx hb hts uX4 hown hK hP (i := 0) (by omega) hC.1 rfl 2 (by decide) u_fl_RX4_23 rfl dX4_cutterOf_6 ?_
    refine x_alen hx hb hK hP (i := 3) (by omega) 4 hg1 rfl dX4_cutterOf_9 ?_
    refine x_icmp_ge (tgt := 22) hx hb dX4_cutterOf_10 (by decide) (by omega) (fun c_10 => ?_) (fun c_10 => absurd c_10 (by omega))
    refine lv_null hx hb dX4_cutterOf_22 ?_
    exact xr_q hx hb hrt hlocks (rfl) dX4_cutterOf_23

set_option maxRecDepth 20000 in
theorem c_X4_textOrFour_some (l : Launch) (D : va_G) (cA : Nat → ClassId) (n : Nat) (ad : Nat → Nat) (en : Nat → va_E) (hn : 53 ≤ n) {S : xSt} (hC : CW cA ad en S) (t : Nat) (ht8 : t < 8) {r : xRow} (hS : S.2.1 t = some r) : Met l yX4_textOrFour (Cond.code yX4_textOrFour cX4_textOrFour 3 (some (.object "RowsOfSigns$Row")) :: xU) (xrm 1 21) (va_Pc [.ref (ad 0), .int (xI (t : Int))] (xB D cA n ad en)) (va_Sq (fun z => z = some (ad (21 + 3 * t + 1)))) 0 0 (fun _ => False) := by
  refine xmet (by decide) (Nat.le_of_ble_eq_true rfl) (fun p e s mm args below meth c ls hx hb hrt hml hown hts hlocks hname hB hl => ?_)
  obtain ⟨hP, hK, hN⟩ := hB
  have hl : lv_has ls 3 [(0, .ref (ad 0)), (1, .int (xI (t : Int)))] := hl
  have hT := hC.rt ht8
  rw [hS] at hT
  refine lv_aload_n hx hb dX4_textOrFour_0 rfl (lv_at hl 0 rfl) ?_
  refine lv_iload_n hx hb dX4_textOrFour_1 rfl (lv_at hl 1 rfl) ?_
  refine xv_q (i := 0) (As := [.int (xI (t : Int))]) (rest := []) ⟨hx, hb, hml, hown, hts⟩ hl.1 (c_X4_textOf_in l D cA n ad en (by omega) hC t (by omega)) k_X4_textOf u_ml_RX4_97 hK hN hP (by omega) hC.1 rfl rfl rfl rfl (Nat.le_of_ble_eq_true rfl) ⟨Nat.le_of_ble_eq_true rfl, Nat.le_of_ble_eq_true rfl⟩ ⟨Nat.le_of_ble_eq_true rfl, Nat.le_of_ble_eq_true rfl⟩ dX4_textOrFour_2 ?_
  refine lv_astore_n (lv' := [(2, .ref (ad (21 + 3 * t))), (0, .ref (ad 0)), (1, .int (xI (t : Int)))]) hx hb dX4_textOrFour_5 rfl hl (by decide) rfl (fun ls hl => ?_)
  refine lv_aload_n hx hb dX4_textOrFour_6 rfl (lv_at hl 0 rfl) ?_
  refine lv_ifnonnull (tgt := 12) hx hb dX4_textOrFour_7 (by decide) ?_
  refine lv_aload_n hx hb dX4_textOrFour_12 rfl (lv_at hl 0 rfl) ?_
  refine x_getn (T := TX3) (N := 2) hx hb hts uX3 hown hN hK hP (i := 21 + 3 * t) (by omega) hT.1 rfl 1 (by decide) (by simp only [xNest, List.mem_cons]; exact Or.inr (Or.inr (Or.inr (Or.inr (Or.inr (Or.inr (Or.inl rfl))))))) rfl dX4_textOrFour_13 ?_
  refine x_if_eq (tgt := 26) hx hb dX4_textOrFour_16 (by decide) (by omega) (fun c_16 => ?_) (fun c_16 => absurd c_16 (by omega))
  refine lv_aload_n hx hb dX4_textOrFour_26 rfl (lv_at hl 0 rfl) ?_
  refine x_getn (T := TX3) (N := 2) hx hb hts uX3 hown hN hK hP (i := 21 + 3 * t) (by omega) hT.1 rfl 0 (by decide) (by simp only [xNest, List.mem_cons]; exact Or.inr (Or.inr (Or.inr (Or.inr (Or.inr (Or.inl rfl)))))) rfl dX4_textOrFour_27 ?_
  exact xr_q hx hb hrt hlocks (rfl) dX4_textOrFour_30

set_option maxRecDepth 20000 in
theorem c_X4_textOrFour_none (l : Launch) (D : va_G) (cA : Nat → ClassId) (n : Nat) (ad : Nat → Nat) (en : Nat → va_E) (hn : 53 ≤ n) {S : xSt} (hC : CW cA ad en S) (t : Nat) (ht8 : t < 8) (hS : S.2.1 t = none) : Met l yX4_textOrFour (Cond.code yX4_textOrFour cX4_textOrFour 3 (some (.object "RowsOfSigns$Row")) :: xU) (xrm 1 21) (va_Pc [.ref (ad 0), .int (xI (t : Int))] (xB D cA n ad en)) (va_Sq (fun z => z = some (ad 9))) 0 0 (fun _ => False) := by
  refine xmet (by decide) (Nat.le_of_ble_eq_true rfl) (fun p e s mm args below meth c ls hx hb hrt hml hown hts hlocks hname hB hl => ?_)
  obtain ⟨hP, hK, hN⟩ := hB
  have hl : lv_has ls 3 [(0, .ref (ad 0)), (1, .int (xI (t : Int)))] := hl
  have hT := hC.rt ht8
  rw [hS] at hT
  refine lv_aload_n hx hb dX4_textOrFour_0 rfl (lv_at hl 0 rfl) ?_
  refine lv_iload_n hx hb dX4_textOrFour_1 rfl (lv_at hl 1 rfl) ?_
  refine xv_q (i := 0) (As := [.int (xI (t : Int))]) (rest := []) ⟨hx, hb, hml, hown, hts⟩ hl.1 (c_X4_textOf_in l D cA n ad en (by omega) hC t (by omega)) k_X4_textOf u_ml_RX4_97 hK hN hP (by omega) hC.1 rfl rfl rfl rfl (Nat.le_of_ble_eq_true rfl) ⟨Nat.le_of_ble_eq_true rfl, Nat.le_of_ble_eq_true rfl⟩ ⟨Nat.le_of_ble_eq_true rfl, Nat.le_of_ble_eq_true rfl⟩ dX4_textOrFour_2 ?_
  refine lv_astore_n (lv' := [(2, .ref (ad (21 + 3 * t))), (0, .ref (ad 0)), (1, .int (xI (t : Int)))]) hx hb dX4_textOrFour_5 rfl hl (by decide) rfl (fun ls hl => ?_)
  refine lv_aload_n hx hb dX4_textOrFour_6 rfl (lv_at hl 0 rfl) ?_
  refine lv_ifnonnull (tgt := 12) hx hb dX4_textOrFour_7 (by decide) ?_
  refine lv_aload_n hx hb dX4_textOrFour_12 rfl (lv_at hl 0 rfl) ?_
  refine x_getn (T := TX3) (N := 2) hx hb hts uX3 hown hN hK hP (i := 21 + 3 * t) (by omega) hT.1 rfl 1 (by decide) (by simp only [xNest, List.mem_cons]; exact Or.inr (Or.inr (Or.inr (Or.inr (Or.inr (Or.inr (Or.inl rfl))))))) rfl dX4_textOrFour_13 ?_
  refine x_if_eq (tgt := 26) hx hb dX4_textOrFour_16 (by decide) (by omega) (fun c_16 => absurd c_16 (by omega)) (fun c_16 => ?_)
  refine lv_aload_n hx hb dX4_textOrFour_19 rfl (lv_at hl 1 rfl) ?_
  refine x_get (T := TX4) (N := 6) hx hb hts uX4 hown hK hP (i := 0) (by omega) hC.1 rfl 4 (by decide) u_fl_RX4_35 rfl dX4_textOrFour_20 ?_
  refine lv_goto (tgt := 30) hx hb dX4_textOrFour_23 (by decide) ?_
  exact xr_q hx hb hrt hlocks (rfl) dX4_textOrFour_30

set_option maxRecDepth 20000 in
theorem c_X4_textOrFour_out (l : Launch) (D : va_G) (cA : Nat → ClassId) (n : Nat) (ad : Nat → Nat) (en : Nat → va_E) (hn : 53 ≤ n) {S : xSt} (hC : CW cA ad en S) (z1 : Int) (hz1 : -2147483648 ≤ z1 ∧ z1 ≤ 2147483647) (h1 : ¬ (0 ≤ z1 ∧ z1 < 8)) : Met l yX4_textOrFour (Cond.code yX4_textOrFour cX4_textOrFour 3 (some (.object "RowsOfSigns$Row")) :: xU) (xrm 1 21) (va_Pc [.ref (ad 0), .int (xI z1)] (xB D cA n ad en)) (va_Sq (fun z => z = none)) 0 0 (fun _ => False) := by
  refine xmet (by decide) (Nat.le_of_ble_eq_true rfl) (fun p e s mm args below meth c ls hx hb hrt hml hown hts hlocks hname hB hl => ?_)
  obtain ⟨hP, hK, hN⟩ := hB
  have hl : lv_has ls 3 [(0, .ref (ad 0)), (1, .int (xI z1))] := hl
  refine lv_aload_n hx hb dX4_textOrFour_0 rfl (lv_at hl 0 rfl) ?_
  refine lv_iload_n hx hb dX4_textOrFour_1 rfl (lv_at hl 1 rfl) ?_
  refine xv_q (i := 0) (As := [.int (xI z1)]) (rest := []) ⟨hx, hb, hml, hown, hts⟩ hl.1 (c_X4_textOf_out l D cA n ad en (by omega) hC z1 (by omega) (by omega)) k_X4_textOf u_ml_RX4_97 hK hN hP (by omega) hC.1 rfl rfl rfl rfl (Nat.le_of_ble_eq_true rfl) ⟨Nat.le_of_ble_eq_true rfl, Nat.le_of_ble_eq_true rfl⟩ ⟨Nat.le_of_ble_eq_true rfl, Nat.le_of_ble_eq_true rfl⟩ dX4_textOrFour_2 ?_
  refine lv_astore_nN (lv' := [(2, .null), (0, .ref (ad 0)), (1, .int (xI z1))]) hx hb dX4_textOrFour_5 rfl hl (by decide) rfl (fun ls hl => ?_)
  refine lv_aload_nN hx hb dX4_textOrFour_6 rfl (lv_at hl 0 rfl) ?_
  refine lv_ifnonnullN hx hb dX4_textOrFour_7 ?_
  refine lv_null hx hb dX4_textOrFour_10 ?_
  exact xr_q hx hb hrt hlocks (rfl) dX4_textOrFour_11

set_option maxRecDepth 20000 in
theorem c_X4_nothing (l : Launch) (D : va_G) (cA : Nat → ClassId) (n : Nat) (ad : Nat → Nat) (en : Nat → va_E) (sz : Nat) (hn : 53 ≤ n) {S : xSt} (hC : CW cA ad en S) {m : Nat} {f : Nat → Int} (hr : XR cA ad en 11 m f) : Met l yX4_nothing (Cond.code yX4_nothing cX4_nothing 1 (some (.object "RowsOfSigns$Row")) :: xU) (xrm 1 20) (va_Pc [.ref (ad 0)] (xM D cA n ad en sz)) (va_Qq (fun r u => r = some (ad 11) ∧ XR cA ad u 11 0 f ∧ xO 11 13 en u) (xE D n ad) (xA n ad sz)) 0 0 (xA n ad sz) := by
  refine xmet (by decide) (Nat.le_of_ble_eq_true rfl) (fun p e s mm args below meth c ls hx hb hrt hml hown hts hlocks hname hB hl => ?_)
  obtain ⟨⟨hP, hK, hN⟩, hsz, hDt⟩ := hB
  have hD : xD (xA n ad sz) n ad := xD_self hDt sz
  have hA : ∀ q : Nat, s.heap.size ≤ q → xA n ad sz q := fun q h => Or.inr (by rw [← hsz]; exact h)
  have hS : va_S (xA n ad sz) s.heap s.heap [] := va_S.rf
  have hown : s.vm.findClass RX4 = some mm.cls := hown
  have hl : lv_has ls 1 [(0, .ref (ad 0))] := hl
  refine lv_aload_n hx hb dX4_nothing_0 rfl (lv_at hl 0 rfl) ?_
  refine x_get (T := TX4) (N := 6) hx hb hts uX4 hown hK hP (i := 0) (by omega) hC.1 rfl 5 (by decide) u_fl_RX4_39 rfl dX4_nothing_1 ?_
  refine xm_v (i := 11) (As := []) (rest := []) ⟨hx, hb, hml, hown, hts⟩ hl.1 (c_X2_clear l D cA n ad en _ (by omega) hr) k_X2_clear u_ml_RX4_235 hK hN hP (by omega) hr.1 rfl rfl rfl rfl (Nat.le_of_ble_eq_true rfl) ⟨Nat.le_of_ble_eq_true rfl, Nat.le_of_ble_eq_true rfl⟩ ⟨Nat.le_of_ble_eq_true rfl, Nat.le_of_ble_eq_true rfl⟩ dX4_nothing_4 hD hS hA (fun en1 H locs hp1 hP hS => ?_)
  obtain ⟨hr, hos⟩ := hp1
  have hC := hC.spare hos hr
  have ho := hos
  refine lv_aload_n hx hb dX4_nothing_7 rfl (lv_at hl 0 rfl) ?_
  refine x_get (T := TX4) (N := 6) hx hb hts uX4 hown hK hP (i := 0) (by omega) hC.1 rfl 5 (by decide) u_fl_RX4_39 rfl dX4_nothing_8 ?_
  exact xe_q hx hb hrt hlocks hP hS (r := some (ad 11)) rfl (⟨rfl, hr, ho⟩) dX4_nothing_11

set_option maxRecDepth 20000 in
theorem c_X4_single (l : Launch) (D : va_G) (cA : Nat → ClassId) (n : Nat) (ad : Nat → Nat) (en : Nat → va_E) (sz : Nat) (hn : 53 ≤ n) {S : xSt} (hC : CW cA ad en S) {m : Nat} {f : Nat → Int} (hr : XR cA ad en 11 m f) (z1 : Int) (hz1 : 0 ≤ z1 ∧ z1 ≤ 255) : Met l yX4_single (Cond.code yX4_single cX4_single 2 (some (.object "RowsOfSigns$Row")) :: xU) (xrm 1 21) (va_Pc [.ref (ad 0), .int (xI z1)] (xM D cA n ad en sz)) (va_Qq (fun r u => r = some (ad 11) ∧ XR cA ad u 11 1 (fun _ => z1) ∧ xO 11 13 en u) (xE D n ad) (xA n ad sz)) 0 0 (xA n ad sz) := by
  refine xmet (by decide) (Nat.le_of_ble_eq_true rfl) (fun p e s mm args below meth c ls hx hb hrt hml hown hts hlocks hname hB hl => ?_)
  obtain ⟨⟨hP, hK, hN⟩, hsz, hDt⟩ := hB
  have hD : xD (xA n ad sz) n ad := xD_self hDt sz
  have hA : ∀ q : Nat, s.heap.size ≤ q → xA n ad sz q := fun q h => Or.inr (by rw [← hsz]; exact h)
  have hS : va_S (xA n ad sz) s.heap s.heap [] := va_S.rf
  have hown : s.vm.findClass RX4 = some mm.cls := hown
  have hl : lv_has ls 2 [(0, .ref (ad 0)), (1, .int (xI z1))] := hl
  refine lv_aload_n hx hb dX4_single_0 rfl (lv_at hl 0 rfl) ?_
  refine x_get (T := TX4) (N := 6) hx hb hts uX4 hown hK hP (i := 0) (by omega) hC.1 rfl 5 (by decide) u_fl_RX4_39 rfl dX4_single_1 ?_
  refine xm_v (i := 11) (As := []) (rest := []) ⟨hx, hb, hml, hown, hts⟩ hl.1 (c_X2_clear l D cA n ad en _ (by omega) hr) k_X2_clear u_ml_RX4_235 hK hN hP (by omega) hr.1 rfl rfl rfl rfl (Nat.le_of_ble_eq_true rfl) ⟨Nat.le_of_ble_eq_true rfl, Nat.le_of_ble_eq_true rfl⟩ ⟨Nat.le_of_ble_eq_true rfl, Nat.le_of_ble_eq_true rfl⟩ dX4_single_4 hD hS hA (fun en1 H locs hp1 hP hS => ?_)
  obtain ⟨hr, hos⟩ := hp1
  have hC := hC.spare hos hr
  have ho := hos
  refine lv_aload_n hx hb dX4_single_7 rfl (lv_at hl 0 rfl) ?_
  refine x_get (T := TX4) (N := 6) hx hb hts uX4 hown hK hP (i := 0) (by omega) hC.1 rfl 5 (by decide) u_fl_RX4_39 rfl dX4_single_8 ?_
  refine lv_iload_n hx hb dX4_single_11 rfl (lv_at hl 1 rfl) ?_
  refine xm_v (i := 11) (As := [.int (xI z1)]) (rest := []) ⟨hx, hb, hml, hown, hts⟩ hl.1 (c_X2_add l D cA n ad en1 _ (by omega) hr (by omega) z1 (hz1)) k_X2_add u_ml_RX4_48 hK hN hP (by omega) hr.1 rfl rfl rfl rfl (Nat.le_of_ble_eq_true rfl) ⟨Nat.le_of_ble_eq_true rfl, Nat.le_of_ble_eq_true rfl⟩ ⟨Nat.le_of_ble_eq_true rfl, Nat.le_of_ble_eq_true rfl⟩ dX4_single_12 hD hS hA (fun en2 H locs hp2 hP hS => ?_)
  obtain ⟨hr, hos⟩ := hp2
  have hC := hC.spare hos hr
  have ho := ho.tr hos
  refine lv_aload_n hx hb dX4_single_15 rfl (lv_at hl 0 rfl) ?_
  refine x_get (T := TX4) (N := 6) hx hb hts uX4 hown hK hP (i := 0) (by omega) hC.1 rfl 5 (by decide) u_fl_RX4_39 rfl dX4_single_16 ?_
  exact xe_q hx hb hrt hlocks hP hS (r := some (ad 11)) rfl (⟨rfl, hr.to rfl (fun t ht => by rw [show t = 0 by omega, sp_up_s]), ho⟩) dX4_single_19

set_option maxRecDepth 20000 in
theorem c_X4_lowBytes (l : Launch) (D : va_G) (cA : Nat → ClassId) (n : Nat) (ad : Nat → Nat) (en : Nat → va_E) (sz : Nat) (hn : 53 ≤ n) {S : xSt} (hC : CW cA ad en S) {m : Nat} {f : Nat → Int} (hr : XR cA ad en 11 m f) (k : Nat) (hk8 : k ≤ 8) (w : Int64) : Met l yX4_lowBytes (Cond.code yX4_lowBytes cX4_lowBytes 5 (some (.object "RowsOfSigns$Row")) :: xU) (xrm 1 21) (va_Pc [.ref (ad 0), .int (xI (k : Int)), .long w] (xM D cA n ad en sz)) (va_Qq (fun r u => r = some (ad 11) ∧ XR cA ad u 11 k (fun t => sp_by w (k - 1 - t)) ∧ xO 11 13 en u) (xE D n ad) (xA n ad sz)) 0 0 (xA n ad sz) := by
  refine xmet (by decide) (Nat.le_of_ble_eq_true rfl) (fun p e s mm args below meth c ls hx hb hrt hml hown hts hlocks hname hB hl => ?_)
  obtain ⟨⟨hP, hK, hN⟩, hsz, hDt⟩ := hB
  have hD : xD (xA n ad sz) n ad := xD_self hDt sz
  have hA : ∀ q : Nat, s.heap.size ≤ q → xA n ad sz q := fun q h => Or.inr (by rw [← hsz]; exact h)
  have hS : va_S (xA n ad sz) s.heap s.heap [] := va_S.rf
  have hown : s.vm.findClass RX4 = some mm.cls := hown
  have hl : lv_has ls 5 [(0, .ref (ad 0)), (1, .int (xI (k : Int))), (2, .long w)] := hl
  refine lv_aload_n hx hb dX4_lowBytes_0 rfl (lv_at hl 0 rfl) ?_
  refine x_get (T := TX4) (N := 6) hx hb hts uX4 hown hK hP (i := 0) (by omega) hC.1 rfl 5 (by decide) u_fl_RX4_39 rfl dX4_lowBytes_1 ?_
  refine xm_v (i := 11) (As := []) (rest := []) ⟨hx, hb, hml, hown, hts⟩ hl.1 (c_X2_clear l D cA n ad en _ (by omega) hr) k_X2_clear u_ml_RX4_235 hK hN hP (by omega) hr.1 rfl rfl rfl rfl (Nat.le_of_ble_eq_true rfl) ⟨Nat.le_of_ble_eq_true rfl, Nat.le_of_ble_eq_true rfl⟩ ⟨Nat.le_of_ble_eq_true rfl, Nat.le_of_ble_eq_true rfl⟩ dX4_lowBytes_4 hD hS hA (fun en1 H locs hp1 hP hS => ?_)
  obtain ⟨hr, hos⟩ := hp1
  have hC := hC.spare hos hr
  have ho := hos
  refine lv_iload_n hx hb dX4_lowBytes_7 rfl (lv_at hl 1 rfl) ?_
  refine x_iconst hx hb dX4_lowBytes_8 ?_
  refine x_isub hx hb dX4_lowBytes_9 ?_
  refine lv_istore (lv' := [(4, .int (xI ((k : Int) - 1))), (0, .ref (ad 0)), (1, .int (xI (k : Int))), (2, .long w)]) hx hb dX4_lowBytes_10 hl (by decide) rfl (fun ls hl => ?_)
  have L12 : ∀ (nn : Nat) (a : Int) (F : Nat → Int) (ew12 : Nat → va_E) (H : Heap) (locs : List Loc), (-1 ≤ a ∧ a < (k : Int)) → (∀ t : Nat, t < (k - 1 - a).toNat → F t = sp_by w (k - 1 - t)) → ((a + 1).toNat) < nn → (CW cA ad ew12 S) → (XR cA ad ew12 11 (k - 1 - a).toNat F) → (xO 11 13 en ew12) → va_P D vwCl (xw n ad ew12) H → va_S (xA n ad sz) s.heap H locs → ∀ ls : Array Slot, lv_has ls 5 [(0, .ref (ad 0)), (1, .int (xI (k : Int))), (2, .long w), (4, .int (xI a))] → W p l e (xrm 1 21) s mm args below meth c H locs 0 0 (MQ below (va_Qq (fun r u => r = some (ad 11) ∧ XR cA ad u 11 k (fun t => sp_by w (k - 1 - t)) ∧ xO 11 13 en u) (xE D n ad) (xA n ad sz)) args s 0 0 (xA n ad sz)) (F0 mm 12 ls []) := by
    intro nn
    induction nn with
    | zero =>
      intro a F ew12 H locs ha hF hmm hC hr ho hP hS ls hl
      exact absurd hmm (Nat.not_lt_zero _)
    | succ nn ih =>
      intro a F ew12 H locs ha hF hmm hC hr ho hP hS ls hl
      have hm2 : (((k - 1 - a).toNat : Nat) : Int) = k - 1 - a := by omega
      refine lv_iload hx hb dX4_lowBytes_12 (lv_at hl 3 rfl) ?_
      refine x_if_lt (tgt := 42) hx hb dX4_lowBytes_14 (by decide) (by omega) (fun c_14 => ?_) (fun c_14 => ?_)
      · refine lv_aload_n hx hb dX4_lowBytes_42 rfl (lv_at hl 0 rfl) ?_
        refine x_get (T := TX4) (N := 6) hx hb hts uX4 hown hK hP (i := 0) (by omega) hC.1 rfl 5 (by decide) u_fl_RX4_39 rfl dX4_lowBytes_43 ?_
        exact xe_q hx hb hrt hlocks hP hS (r := some (ad 11)) rfl (⟨rfl, hr.to (by omega) (fun t ht => hF t (by omega)), ho⟩) dX4_lowBytes_46
      · obtain ⟨q, rfl⟩ : ∃ q : Nat, a = (q : Int) := ⟨a.toNat, by omega⟩
        refine lv_aload_n hx hb dX4_lowBytes_17 rfl (lv_at hl 0 rfl) ?_
        refine x_get (T := TX4) (N := 6) hx hb hts uX4 hown hK hP (i := 0) (by omega) hC.1 rfl 5 (by decide) u_fl_RX4_39 rfl dX4_lowBytes_18 ?_
        refine lv_lload_n hx hb dX4_lowBytes_21 rfl (lv_at hl 2 rfl) ?_
        refine x_bipush hx hb dX4_lowBytes_22 (by decide +kernel) ?_
        refine lv_iload hx hb dX4_lowBytes_24 (lv_at hl 3 rfl) ?_
        refine x_imul hx hb dX4_lowBytes_26 ?_
        refine lv_lushr hx hb dX4_lowBytes_27 rfl ?_
        refine lv_l2i hx hb dX4_lowBytes_28 rfl ?_
        refine x_sipush hx hb dX4_lowBytes_29 (by decide +kernel) ?_
        refine lv_iand hx hb dX4_lowBytes_32 ?_
        refine x_toi (sp_by w q) (sp_by_u w (by omega)) ?_
        refine xm_v (i := 11) (As := [.int (xI (sp_by w q))]) (rest := []) ⟨hx, hb, hml, hown, hts⟩ hl.1 (c_X2_add l D cA n ad ew12 _ (by omega) hr (by omega) (sp_by w q) (sp_by_b w q)) k_X2_add u_ml_RX4_48 hK hN hP (by omega) hr.1 rfl rfl rfl rfl (Nat.le_of_ble_eq_true rfl) ⟨Nat.le_of_ble_eq_true rfl, Nat.le_of_ble_eq_true rfl⟩ ⟨Nat.le_of_ble_eq_true rfl, Nat.le_of_ble_eq_true rfl⟩ dX4_lowBytes_33 hD hS hA (fun en2 H locs hp2 hP hS => ?_)
        obtain ⟨hr, hos⟩ := hp2
        have hC := hC.spare hos hr
        have ho := ho.tr hos
        refine x_iinc (lv' := [(4, .int (xI ((q : Int) + (-1)))), (0, .ref (ad 0)), (1, .int (xI (k : Int))), (2, .long w)]) (k := 3) hx hb dX4_lowBytes_36 hl rfl (by decide) rfl (fun ls hl => ?_)
        refine lv_goto (tgt := 12) hx hb dX4_lowBytes_39 (by decide) ?_
        exact ih ((q : Int) + (-1)) _ en2 _ _ (by omega) (fun t ht => by
        by_cases q1 : t = ((k : Int) - 1 - (q : Int)).toNat
        · rw [q1, sp_up_s, show k - 1 - ((k : Int) - 1 - (q : Int)).toNat = q by omega]
        · rw [sp_up_n _ _ q1]
          exact hF t (by omega)) (by omega) hC (hr.to (f' := sp_up F ((k : Int) - 1 - (q : Int)).toNat (sp_by w q)) (by omega) (fun t _ => rfl)) ho hP hS ls (lv_sub hl [1, 2, 3, 0] rfl)
  exact L12 _ ((k : Int) - 1) f en1 _ _ (by omega) (fun t ht => absurd ht (by omega)) (Nat.lt_succ_self _) hC (hr.to (by omega) (fun t _ => rfl)) ho hP hS ls (lv_sub hl [1, 2, 3, 0] rfl)
