theorem m_hs0 (f : Nat → Int) (h : Int64) (a : Nat) : sp_hs f h a 0 = h := by rw [sp_hs]
theorem m_hs1 (f : Nat → Int) (h : Int64) (a k : Nat) : sp_hs f h a (k + 1) = sp_mix (sp_hs f h a k) (f (a + k)) := by rw [sp_hs]
theorem m_db0 (S : xSt) : sp_db S 0 = xL 17 := by rw [sp_db]
theorem m_db1 (S : xSt) (b : Nat) : sp_db S (b + 1) = sp_hs (S.1 b).2 (sp_mix (sp_db S b) ((S.1 b).1 : Int)) 0 (S.1 b).1 := by rw [sp_db]
theorem m_dt0 (S : xSt) : sp_dt S 0 = sp_db S 4 := by rw [sp_dt]
theorem m_dtn {S : xSt} {t : Nat} (h : S.2.1 t = none) : sp_dt S (t + 1) = sp_mix (sp_dt S t) (-1) := by rw [sp_dt, h, sp_dtr]
theorem m_dts {S : xSt} {t : Nat} {r : xRow} (h : S.2.1 t = some r) : sp_dt S (t + 1) = sp_hs r.2 (sp_mix (sp_dt S t) (r.1 : Int)) 0 r.1 := by rw [sp_dt, h, sp_dtr]
theorem m_dp0 (S : xSt) : sp_dp S 0 = sp_mix (sp_dt S 8) (S.2.2.1.1 : Int) := by rw [sp_dp]
theorem m_dp1 (S : xSt) (k : Nat) : sp_dp S (k + 1) = sp_hs S.2.2.1.2.2.2 (sp_mix (sp_dp S k) ((S.2.2.1.2.2.1 k : Int) - (S.2.2.1.2.1 k : Int))) (S.2.2.1.2.1 k) (S.2.2.1.2.2.1 k - S.2.2.1.2.1 k) := by rw [sp_dp]
theorem m_dc0 (S : xSt) : sp_dc S 0 = sp_dp S S.2.2.1.1 := by rw [sp_dc]
theorem m_dcn {S : xSt} {c : Nat} (h : S.2.2.2 c = none) : sp_dc S (c + 1) = sp_mix (sp_dc S c) (-1) := by rw [sp_dc, h, sp_dcr]
theorem m_dcs {S : xSt} {c : Nat} {q : xCut} (h : S.2.2.2 c = some q) : sp_dc S (c + 1) = sp_mix (sp_dc S c) (sp_left q.2.2.1 q.2.1 q.1.2 (q.1.1 : Int) (q.2.2.2 : Int)) := by rw [sp_dc, h, sp_dcr, sp_lft]

theorem mw_53 {cA : Nat → ClassId} {ad : Nat → Nat} {en : Nat → va_E} {built0 : Nat → Int} {builtMany0 : Nat → Int} {told0 : Nat → Int} {toldMany0 : Nat → Int} {row0 : Nat → Int} {rowMany0 : Int} {figures0 : Nat → Int} {partText0 : Nat → Int} {partFrom0 : Nat → Int} {partMany0 : Nat → Int} {parts0 : Int} {cut0 : Nat → Int} {cutMany0 : Nat → Int} {isCut0 : Nat → Int} {cutGives0 : Nat → Int} {cutAt0 : Nat → Int} {h0 : Int64} (h : MW cA ad en (mO built0 builtMany0 told0 toldMany0 row0 rowMany0 figures0 partText0 partFrom0 partMany0 parts0 cut0 cutMany0 isCut0 cutGives0 cutAt0 h0)) : en 53 = .inr (5, [.ref (ad 54), .ref (ad 55), .ref (ad 56), .ref (ad 57), .ref (ad 58), .int (xI rowMany0), .ref (ad 59), .ref (ad 60), .ref (ad 61), .ref (ad 62), .int (xI parts0), .ref (ad 63), .ref (ad 64), .ref (ad 65), .ref (ad 66), .ref (ad 67), .long h0]) := h.1

theorem c_X5_mixs (l : Launch) (D : va_G) (cA : Nat → ClassId) (n : Nat) (ad : Nat → Nat) (en : Nat → va_E) (sz : Nat) (hn : 68 ≤ n) {built0 : Nat → Int} {builtMany0 : Nat → Int} {told0 : Nat → Int} {toldMany0 : Nat → Int} {row0 : Nat → Int} {rowMany0 : Int} {figures0 : Nat → Int} {partText0 : Nat → Int} {partFrom0 : Nat → Int} {partMany0 : Nat → Int} {parts0 : Int} {cut0 : Nat → Int} {cutMany0 : Nat → Int} {isCut0 : Nat → Int} {cutGives0 : Nat → Int} {cutAt0 : Nat → Int} {h0 : Int64} (hM : MW cA ad en (mO built0 builtMany0 told0 toldMany0 row0 rowMany0 figures0 partText0 partFrom0 partMany0 parts0 cut0 cutMany0 isCut0 cutGives0 cutAt0 h0)) (z1 : Int) : Met l yX5_mix (Cond.code yX5_mix cX5_mix 3 none :: xU) (xrm 0 0) (va_Pc [.ref (ad 53), .long (xL z1)] (xM D cA n ad en sz)) (va_Qv (fun u => MW cA ad u (mO built0 builtMany0 told0 toldMany0 row0 rowMany0 figures0 partText0 partFrom0 partMany0 parts0 cut0 cutMany0 isCut0 cutGives0 cutAt0 (sp_mix h0 z1)) ∧ xO 53 68 en u) (xE D n ad) (xA n ad sz)) 0 0 (xA n ad sz) := c_X5_mix l D cA n ad en sz hn hM z1

set_option maxRecDepth 20000 in
theorem c_X5_digest (l : Launch) (D : va_G) (cA : Nat → ClassId) (n : Nat) (ad : Nat → Nat) (en : Nat → va_E) (sz : Nat) (hn : 68 ≤ n) {M : MO} (hM : MW cA ad en M) {S : xSt} (hW : WF S) (hR : MR S M) : Met l yX5_digest (Cond.code yX5_digest cX5_digest 3 (some .long) :: xU) (xrm 3 68) (va_Pc [.ref (ad 53)] (xM D cA n ad en sz)) (va_Ql (fun r u => r = am_digest S ∧ ∃ M' : MO, MW cA ad u M' ∧ MR S M' ∧ xO 53 68 en u) (xE D n ad) (xA n ad sz)) 0 0 (xA n ad sz) := by
  refine xmet (by decide) (Nat.le_of_ble_eq_true rfl) (fun p e s mm args below meth c ls hx hb hrt hml hown hts hlocks hname hB hl => ?_)
  obtain ⟨⟨hP, hK, hN⟩, hsz, hDt⟩ := hB
  have hD : xD (xA n ad sz) n ad := xD_self hDt sz
  have hA : ∀ q : Nat, s.heap.size ≤ q → xA n ad sz q := fun q h => Or.inr (by rw [← hsz]; exact h)
  have hS : va_S (xA n ad sz) s.heap s.heap [] := va_S.rf
  have hown : s.vm.findClass RX5 = some mm.cls := hown
  have hl : lv_has ls 3 [(0, .ref (ad 53))] := hl
  have ho : xO 53 68 en en := xO.rf
  obtain ⟨wn, hwn, hwb⟩ := hW.2.2.1
  have hwm : wn ≤ 200 := hwn.1
  have hwp := hW.2.2.2.1
  have hwq := hwp.1
  have hpn : M.parts = (S.2.2.1.1 : Int) := hR.2.2.1.1
  have hpk := hR.2.2.1.2
  refine lv_aload_n hx hb dX5_digest_0 rfl (lv_at hl 0 rfl) ?_
  refine x_ldc2 hx hb hown (hts _ u_ko_RX5_188) (k := 17) (by decide +kernel) dX5_digest_1 ?_
  refine x_put (T := TX5) (N := 17) (ty := .long) hx hb hts uX5 tyX5 tyX5_ok nmX5 hown hK hP hD hS (i := 53) (by omega) hM.1 rfl 16 (by decide) u_fl_RX5_184 rfl (by decide +kernel) rfl rfl (by show 16 < 17; decide) dX5_digest_4 (fun H locs hP hS => ?_)
  obtain ⟨en1, he1⟩ : ∃ z, z = va_up en 53 (.inr (5, [.ref (ad 54), .ref (ad 55), .ref (ad 56), .ref (ad 57), .ref (ad 58), .int (xI M.rowMany), .ref (ad 59), .ref (ad 60), .ref (ad 61), .ref (ad 62), .int (xI M.parts), .ref (ad 63), .ref (ad 64), .ref (ad 65), .ref (ad 66), .ref (ad 67), .long (xL 17)])) := ⟨_, rfl⟩
  have hP : va_P D vwCl (xw n ad en1) H := by rw [he1]; exact hP
  have hM : MW cA ad en1 (mO M.built M.builtMany M.told M.toldMany M.row M.rowMany M.figures M.partText M.partFrom M.partMany M.parts M.cut M.cutMany M.isCut M.cutGives M.cutAt (xL 17)) := by rw [he1]; exact hM.s_h (xL 17)
  have ho : xO 53 68 en en1 := by rw [he1]; exact ho.up (by omega) (by omega)
  refine x_iconst hx hb dX5_digest_7 ?_
  refine lv_istore_n (lv' := [(1, .int (xI 0)), (0, .ref (ad 53))]) hx hb dX5_digest_8 rfl hl (by decide) rfl (fun ls hl => ?_)
  have L9 : ∀ (nn : Nat) (b : Nat) (ew9 : Nat → va_E) (H : Heap) (locs : List Loc), (b ≤ 4) → (4 - b) < nn → (MW cA ad ew9 (mO M.built M.builtMany M.told M.toldMany M.row M.rowMany M.figures M.partText M.partFrom M.partMany M.parts M.cut M.cutMany M.isCut M.cutGives M.cutAt (sp_db S b))) → (xO 53 68 en ew9) → va_P D vwCl (xw n ad ew9) H → va_S (xA n ad sz) s.heap H locs → ∀ ls : Array Slot, lv_has ls 3 [(0, .ref (ad 53)), (1, .int (xI (b : Int)))] → W p l e (xrm 3 68) s mm args below meth c H locs 0 0 (MQ below (va_Ql (fun r u => r = am_digest S ∧ ∃ M' : MO, MW cA ad u M' ∧ MR S M' ∧ xO 53 68 en u) (xE D n ad) (xA n ad sz)) args s 0 0 (xA n ad sz)) (F0 mm 9 ls []) := by
    intro nn
    induction nn with
    | zero =>
      intro b ew9 H locs hq_b hmm hM ho hP hS ls hl
      exact absurd hmm (Nat.not_lt_zero _)
    | succ nn ih9 =>
      intro b ew9 H locs hq_b hmm hM ho hP hS ls hl
      refine lv_iload_n hx hb dX5_digest_9 rfl (lv_at hl 1 rfl) ?_
      refine x_iconst hx hb dX5_digest_10 ?_
      refine x_icmp_ge (tgt := 66) hx hb dX5_digest_11 (by decide) (by omega) (fun c_11 => ?_) (fun c_11 => ?_)
      · refine x_iconst hx hb dX5_digest_66 ?_
        refine lv_istore_n (lv' := [(1, .int (xI 0)), (0, .ref (ad 53))]) hx hb dX5_digest_67 rfl hl (by decide) rfl (fun ls hl => ?_)
        have L68 : ∀ (nn : Nat) (t : Nat) (ew68 : Nat → va_E) (H : Heap) (locs : List Loc), (t ≤ 8) → (8 - t) < nn → (MW cA ad ew68 (mO M.built M.builtMany M.told M.toldMany M.row M.rowMany M.figures M.partText M.partFrom M.partMany M.parts M.cut M.cutMany M.isCut M.cutGives M.cutAt (sp_dt S t))) → (xO 53 68 en ew68) → va_P D vwCl (xw n ad ew68) H → va_S (xA n ad sz) s.heap H locs → ∀ ls : Array Slot, lv_has ls 3 [(0, .ref (ad 53)), (1, .int (xI (t : Int)))] → W p l e (xrm 3 68) s mm args below meth c H locs 0 0 (MQ below (va_Ql (fun r u => r = am_digest S ∧ ∃ M' : MO, MW cA ad u M' ∧ MR S M' ∧ xO 53 68 en u) (xE D n ad) (xA n ad sz)) args s 0 0 (xA n ad sz)) (F0 mm 68 ls []) := by
          intro nn
          induction nn with
          | zero =>
            intro t ew68 H locs hq_t hmm hM ho hP hS ls hl
            exact absurd hmm (Nat.not_lt_zero _)
          | succ nn ih68 =>
            intro t ew68 H locs hq_t hmm hM ho hP hS ls hl
            refine lv_iload_n hx hb dX5_digest_68 rfl (lv_at hl 1 rfl) ?_
            refine x_bipush hx hb dX5_digest_69 (by decide +kernel) ?_
            refine x_icmp_ge (tgt := 126) hx hb dX5_digest_71 (by decide) (by omega) (fun c_71 => ?_) (fun c_71 => ?_)
            · refine lv_aload_n hx hb dX5_digest_126 rfl (lv_at hl 0 rfl) ?_
              refine lv_aload_n hx hb dX5_digest_127 rfl (lv_at hl 0 rfl) ?_
              refine x_get (T := TX5) (N := 17) hx hb hts uX5 hown hK hP (i := 53) (by omega) (mw_53 hM) rfl 10 (by decide) u_fl_RX5_148 rfl dX5_digest_128 ?_
              refine x_to ((S.2.2.1.1 : Int)) (hpn) ?_
              refine x_i2l hx hb dX5_digest_131 (by omega) ?_
              refine xm_v (i := 53) (As := [.long (xL (S.2.2.1.1 : Int))]) (rest := []) ⟨hx, hb, hml, hown, hts⟩ hl.1 (c_X5_mixs l D cA n ad ew68 _ hn hM (S.2.2.1.1 : Int)) k_X5_mix u_ml_RX5_190 hK hN hP (by omega) (mw_53 hM) rfl rfl rfl rfl (Nat.le_of_ble_eq_true rfl) ⟨Nat.le_of_ble_eq_true rfl, Nat.le_of_ble_eq_true rfl⟩ ⟨Nat.le_of_ble_eq_true rfl, Nat.le_of_ble_eq_true rfl⟩ dX5_digest_132 hD hS hA (fun en2 H locs hp2 hP hS => ?_)
              obtain ⟨hM, ho2⟩ := hp2
              have ho := ho.tr ho2
              refine x_iconst hx hb dX5_digest_135 ?_
              refine lv_istore_n (lv' := [(1, .int (xI 0)), (0, .ref (ad 53))]) hx hb dX5_digest_136 rfl hl (by decide) rfl (fun ls hl => ?_)
              have L137 : ∀ (nn : Nat) (k9 : Nat) (ew137 : Nat → va_E) (H : Heap) (locs : List Loc), (k9 ≤ S.2.2.1.1) → (S.2.2.1.1 - k9) < nn → (MW cA ad ew137 (mO M.built M.builtMany M.told M.toldMany M.row M.rowMany M.figures M.partText M.partFrom M.partMany M.parts M.cut M.cutMany M.isCut M.cutGives M.cutAt (sp_dp S k9))) → (xO 53 68 en ew137) → va_P D vwCl (xw n ad ew137) H → va_S (xA n ad sz) s.heap H locs → ∀ ls : Array Slot, lv_has ls 3 [(0, .ref (ad 53)), (1, .int (xI (k9 : Int)))] → W p l e (xrm 3 68) s mm args below meth c H locs 0 0 (MQ below (va_Ql (fun r u => r = am_digest S ∧ ∃ M' : MO, MW cA ad u M' ∧ MR S M' ∧ xO 53 68 en u) (xE D n ad) (xA n ad sz)) args s 0 0 (xA n ad sz)) (F0 mm 137 ls []) := by
                intro nn
                induction nn with
                | zero =>
                  intro k9 ew137 H locs hq_k9 hmm hM ho hP hS ls hl
                  exact absurd hmm (Nat.not_lt_zero _)
                | succ nn ih137 =>
                  intro k9 ew137 H locs hq_k9 hmm hM ho hP hS ls hl
                  refine lv_iload_n hx hb dX5_digest_137 rfl (lv_at hl 1 rfl) ?_
                  refine lv_aload_n hx hb dX5_digest_138 rfl (lv_at hl 0 rfl) ?_
                  refine x_get (T := TX5) (N := 17) hx hb hts uX5 hown hK hP (i := 53) (by omega) (mw_53 hM) rfl 10 (by decide) u_fl_RX5_148 rfl dX5_digest_139 ?_
                  refine x_to ((S.2.2.1.1 : Int)) (hpn) ?_
                  refine x_icmp_ge (tgt := 198) hx hb dX5_digest_142 (by decide) (by omega) (fun c_142 => ?_) (fun c_142 => ?_)
                  · refine x_iconst hx hb dX5_digest_198 ?_
                    refine lv_istore_n (lv' := [(1, .int (xI 0)), (0, .ref (ad 53))]) hx hb dX5_digest_199 rfl hl (by decide) rfl (fun ls hl => ?_)
                    have L200 : ∀ (nn : Nat) (c9 : Nat) (ew200 : Nat → va_E) (H : Heap) (locs : List Loc), (c9 ≤ 2) → (2 - c9) < nn → (MW cA ad ew200 (mO M.built M.builtMany M.told M.toldMany M.row M.rowMany M.figures M.partText M.partFrom M.partMany M.parts M.cut M.cutMany M.isCut M.cutGives M.cutAt (sp_dc S c9))) → (xO 53 68 en ew200) → va_P D vwCl (xw n ad ew200) H → va_S (xA n ad sz) s.heap H locs → ∀ ls : Array Slot, lv_has ls 3 [(0, .ref (ad 53)), (1, .int (xI (c9 : Int)))] → W p l e (xrm 3 68) s mm args below meth c H locs 0 0 (MQ below (va_Ql (fun r u => r = am_digest S ∧ ∃ M' : MO, MW cA ad u M' ∧ MR S M' ∧ xO 53 68 en u) (xE D n ad) (xA n ad sz)) args s 0 0 (xA n ad sz)) (F0 mm 200 ls []) := by
                      intro nn
                      induction nn with
                      | zero =>
                        intro c9 ew200 H locs hq_c9 hmm hM ho hP hS ls hl
                        exact absurd hmm (Nat.not_lt_zero _)
                      | succ nn ih200 =>
                        intro c9 ew200 H locs hq_c9 hmm hM ho hP hS ls hl
                        refine lv_iload_n hx hb dX5_digest_200 rfl (lv_at hl 1 rfl) ?_
                        refine x_iconst hx hb dX5_digest_201 ?_
                        refine x_icmp_ge (tgt := 236) hx hb dX5_digest_202 (by decide) (by omega) (fun c_202 => ?_) (fun c_202 => ?_)
                        · refine lv_aload_n hx hb dX5_digest_236 rfl (lv_at hl 0 rfl) ?_
                          refine x_get (T := TX5) (N := 17) hx hb hts uX5 hown hK hP (i := 53) (by omega) (mw_53 hM) rfl 16 (by decide) u_fl_RX5_184 rfl dX5_digest_237 ?_
                          exact xe_l hx hb hrt hlocks hP hS (⟨by rw [show c9 = 2 by omega, am_digest], _, hM, hR, ho⟩) dX5_digest_240
                        · rcases hSC : S.2.2.2 c9 with _ | rC
                          · have hz9 : M.cutMany c9 = -1 := by have q := hR.2.2.2 c9 (by omega); rw [hSC] at q; exact q
                            refine lv_aload_n hx hb dX5_digest_205 rfl (lv_at hl 0 rfl) ?_
                            refine lv_aload_n hx hb dX5_digest_206 rfl (lv_at hl 0 rfl) ?_
                            refine x_get (T := TX5) (N := 17) hx hb hts uX5 hown hK hP (i := 53) (by omega) (mw_53 hM) rfl 12 (by decide) u_fl_RX5_40 rfl dX5_digest_207 ?_
                            refine lv_iload_n hx hb dX5_digest_210 rfl (lv_at hl 1 rfl) ?_
                            refine x_ild hx hb hK hP (i := 64) (by omega) hM.2.2.2.2.2.2.2.2.2.2.2.1 (x := M.cutMany c9) (by omega) (rfl) dX5_digest_211 ?_
                            refine x_to (-1) (hz9) ?_
                            refine x_if_ge (tgt := 221) hx hb dX5_digest_212 (by decide) (by omega) (fun c_212 => absurd c_212 (by omega)) (fun c_212 => ?_)
                            refine x_ldc2 hx hb hown (hts _ u_ko_RX5_194) (k := -1) (by decide +kernel) dX5_digest_215 ?_
                            refine lv_goto (tgt := 227) hx hb dX5_digest_218 (by decide) ?_
                            refine xm_v (i := 53) (As := [.long (xL (-1))]) (rest := []) ⟨hx, hb, hml, hown, hts⟩ hl.1 (c_X5_mixs l D cA n ad ew200 _ hn hM (-1)) k_X5_mix u_ml_RX5_190 hK hN hP (by omega) (mw_53 hM) rfl rfl rfl rfl (Nat.le_of_ble_eq_true rfl) ⟨Nat.le_of_ble_eq_true rfl, Nat.le_of_ble_eq_true rfl⟩ ⟨Nat.le_of_ble_eq_true rfl, Nat.le_of_ble_eq_true rfl⟩ dX5_digest_227 hD hS hA (fun en3 H locs hp3 hP hS => ?_)
                            obtain ⟨hM, ho2⟩ := hp3
                            have ho := ho.tr ho2
                            refine x_iinc (lv' := [(1, .int (xI ((c9 : Int) + 1))), (0, .ref (ad 53))]) (k := 1) hx hb dX5_digest_230 hl rfl (by decide) rfl (fun ls hl => ?_)
                            refine lv_goto (tgt := 200) hx hb dX5_digest_233 (by decide) ?_
                            have hhe : (sp_mix (sp_dc S c9) (-1)) = (sp_dc S (c9 + 1)) := by rw [m_dcn hSC]
                            have hM : MW cA ad en3 (mO M.built M.builtMany M.told M.toldMany M.row M.rowMany M.figures M.partText M.partFrom M.partMany M.parts M.cut M.cutMany M.isCut M.cutGives M.cutAt (sp_dc S (c9 + 1))) := by rw [← hhe]; exact hM
                            exact ih200 (c9 + 1) en3 _ _ (by omega) (by omega) hM ho hP hS ls (lv_sub hl [1, 0] rfl)
                          · have hc9 : MRc (some rC) (M.cutMany c9) (fun k => M.cut (200 * c9 + k)) (fun k => M.isCut (256 * c9 + k)) (M.cutGives c9) (M.cutAt c9) := by have q := hR.2.2.2 c9 (by omega); rw [hSC] at q; exact q
                            obtain ⟨hz9, hcf9, hcs9, hcg9, hca9⟩ := hc9
                            have hmC := (hW.2.2.2.2 c9 rC (by omega) hSC).1.1
                            have hfC := (hW.2.2.2.2 c9 rC (by omega) hSC).1.2
                            have hpC := (hW.2.2.2.2 c9 rC (by omega) hSC).2
                            refine lv_aload_n hx hb dX5_digest_205 rfl (lv_at hl 0 rfl) ?_
                            refine lv_aload_n hx hb dX5_digest_206 rfl (lv_at hl 0 rfl) ?_
                            refine x_get (T := TX5) (N := 17) hx hb hts uX5 hown hK hP (i := 53) (by omega) (mw_53 hM) rfl 12 (by decide) u_fl_RX5_40 rfl dX5_digest_207 ?_
                            refine lv_iload_n hx hb dX5_digest_210 rfl (lv_at hl 1 rfl) ?_
                            refine x_ild hx hb hK hP (i := 64) (by omega) hM.2.2.2.2.2.2.2.2.2.2.2.1 (x := M.cutMany c9) (by omega) (rfl) dX5_digest_211 ?_
                            refine x_to ((rC.1.1 : Int)) (hz9) ?_
                            refine x_if_ge (tgt := 221) hx hb dX5_digest_212 (by decide) (by omega) (fun c_212 => ?_) (fun c_212 => absurd c_212 (by omega))
                            refine lv_aload_n hx hb dX5_digest_221 rfl (lv_at hl 0 rfl) ?_
                            refine lv_iload_n hx hb dX5_digest_222 rfl (lv_at hl 1 rfl) ?_
                            have hlb := sp_left_b rC.2.2.1 rC.2.1 rC.1.2 (rC.1.1 : Int) (rC.2.2.2 : Int)
                            refine xv_i (i := 53) (As := [.int (xI (c9 : Int))]) (rest := [.ref (ad 53)]) ⟨hx, hb, hml, hown, hts⟩ hl.1 (c_X5_leftOf l D cA n ad ew200 hn hM c9 (by omega) hcf9 hfC hcs9 hmC hz9 hcg9 rC.2.2.2 hca9 hpC) k_X5_leftOf u_ml_RX5_176 hK hN hP (by omega) (mw_53 hM) rfl rfl rfl rfl (Nat.le_of_ble_eq_true rfl) ⟨Nat.le_of_ble_eq_true rfl, Nat.le_of_ble_eq_true rfl⟩ ⟨Nat.le_of_ble_eq_true rfl, Nat.le_of_ble_eq_true rfl⟩ dX5_digest_223 ?_
                            refine x_i2l hx hb dX5_digest_226 (by omega) ?_
                            refine xm_v (i := 53) (As := [.long (xL (sp_left rC.2.2.1 rC.2.1 rC.1.2 (rC.1.1 : Int) (rC.2.2.2 : Int)))]) (rest := []) ⟨hx, hb, hml, hown, hts⟩ hl.1 (c_X5_mixs l D cA n ad ew200 _ hn hM (sp_left rC.2.2.1 rC.2.1 rC.1.2 (rC.1.1 : Int) (rC.2.2.2 : Int))) k_X5_mix u_ml_RX5_190 hK hN hP (by omega) (mw_53 hM) rfl rfl rfl rfl (Nat.le_of_ble_eq_true rfl) ⟨Nat.le_of_ble_eq_true rfl, Nat.le_of_ble_eq_true rfl⟩ ⟨Nat.le_of_ble_eq_true rfl, Nat.le_of_ble_eq_true rfl⟩ dX5_digest_227 hD hS hA (fun en4 H locs hp4 hP hS => ?_)
                            obtain ⟨hM, ho2⟩ := hp4
                            have ho := ho.tr ho2
                            refine x_iinc (lv' := [(1, .int (xI ((c9 : Int) + 1))), (0, .ref (ad 53))]) (k := 1) hx hb dX5_digest_230 hl rfl (by decide) rfl (fun ls hl => ?_)
                            refine lv_goto (tgt := 200) hx hb dX5_digest_233 (by decide) ?_
                            have hhe : (sp_mix (sp_dc S c9) (sp_left rC.2.2.1 rC.2.1 rC.1.2 (rC.1.1 : Int) (rC.2.2.2 : Int))) = (sp_dc S (c9 + 1)) := by rw [m_dcs hSC]
                            have hM : MW cA ad en4 (mO M.built M.builtMany M.told M.toldMany M.row M.rowMany M.figures M.partText M.partFrom M.partMany M.parts M.cut M.cutMany M.isCut M.cutGives M.cutAt (sp_dc S (c9 + 1))) := by rw [← hhe]; exact hM
                            exact ih200 (c9 + 1) en4 _ _ (by omega) (by omega) hM ho hP hS ls (lv_sub hl [1, 0] rfl)
                    exact L200 _ 0 ew137 _ _ (Nat.zero_le _) (Nat.lt_succ_self _) (show MW cA ad _ _ by rw [show sp_dc S 0 = sp_dp S k9 from by rw [show k9 = S.2.2.1.1 by omega, m_dc0]]; exact hM) ho hP hS ls (lv_sub hl [1, 0] rfl)
                  · have hpe := hwb k9 (by omega)
                    have hps := hwp.2.1 k9 (by omega)
                    obtain ⟨hk1, hk2, hk3⟩ := hpk k9 (by omega)
                    refine lv_aload_n hx hb dX5_digest_145 rfl (lv_at hl 0 rfl) ?_
                    refine lv_aload_n hx hb dX5_digest_146 rfl (lv_at hl 0 rfl) ?_
                    refine x_get (T := TX5) (N := 17) hx hb hts uX5 hown hK hP (i := 53) (by omega) (mw_53 hM) rfl 9 (by decide) u_fl_RX5_34 rfl dX5_digest_147 ?_
                    refine lv_iload_n hx hb dX5_digest_150 rfl (lv_at hl 1 rfl) ?_
                    refine x_ild hx hb hK hP (i := 62) (by omega) hM.2.2.2.2.2.2.2.2.2.1 (x := M.partMany k9) (by omega) (rfl) dX5_digest_151 ?_
                    refine x_to (((S.2.2.1.2.2.1 k9 : Int) - (S.2.2.1.2.1 k9 : Int))) (hk2) ?_
                    refine x_i2l hx hb dX5_digest_152 (by omega) ?_
                    refine xm_v (i := 53) (As := [.long (xL ((S.2.2.1.2.2.1 k9 : Int) - (S.2.2.1.2.1 k9 : Int)))]) (rest := []) ⟨hx, hb, hml, hown, hts⟩ hl.1 (c_X5_mixs l D cA n ad ew137 _ hn hM ((S.2.2.1.2.2.1 k9 : Int) - (S.2.2.1.2.1 k9 : Int))) k_X5_mix u_ml_RX5_190 hK hN hP (by omega) (mw_53 hM) rfl rfl rfl rfl (Nat.le_of_ble_eq_true rfl) ⟨Nat.le_of_ble_eq_true rfl, Nat.le_of_ble_eq_true rfl⟩ ⟨Nat.le_of_ble_eq_true rfl, Nat.le_of_ble_eq_true rfl⟩ dX5_digest_153 hD hS hA (fun en5 H locs hp5 hP hS => ?_)
                    obtain ⟨hM, ho2⟩ := hp5
                    have ho := ho.tr ho2
                    refine x_iconst hx hb dX5_digest_156 ?_
                    refine lv_istore_n (lv' := [(2, .int (xI 0)), (0, .ref (ad 53)), (1, .int (xI (k9 : Int)))]) hx hb dX5_digest_157 rfl hl (by decide) rfl (fun ls hl => ?_)
                    have L158 : ∀ (nn : Nat) (K : Nat) (ew158 : Nat → va_E) (H : Heap) (locs : List Loc), (K ≤ S.2.2.1.2.2.1 k9 - S.2.2.1.2.1 k9) → (S.2.2.1.2.2.1 k9 - S.2.2.1.2.1 k9 - K) < nn → (MW cA ad ew158 (mO M.built M.builtMany M.told M.toldMany M.row M.rowMany M.figures M.partText M.partFrom M.partMany M.parts M.cut M.cutMany M.isCut M.cutGives M.cutAt (sp_hs S.2.2.1.2.2.2 (sp_mix (sp_dp S k9) ((S.2.2.1.2.2.1 k9 : Int) - (S.2.2.1.2.1 k9 : Int))) (S.2.2.1.2.1 k9) K))) → (xO 53 68 en ew158) → va_P D vwCl (xw n ad ew158) H → va_S (xA n ad sz) s.heap H locs → ∀ ls : Array Slot, lv_has ls 3 [(0, .ref (ad 53)), (1, .int (xI (k9 : Int))), (2, .int (xI (K : Int)))] → W p l e (xrm 3 68) s mm args below meth c H locs 0 0 (MQ below (va_Ql (fun r u => r = am_digest S ∧ ∃ M' : MO, MW cA ad u M' ∧ MR S M' ∧ xO 53 68 en u) (xE D n ad) (xA n ad sz)) args s 0 0 (xA n ad sz)) (F0 mm 158 ls []) := by
                      intro nn
                      induction nn with
                      | zero =>
                        intro K ew158 H locs hk8 hmm hM ho hP hS ls hl
                        exact absurd hmm (Nat.not_lt_zero _)
                      | succ nn ih158 =>
                        intro K ew158 H locs hk8 hmm hM ho hP hS ls hl
                        refine lv_iload_n hx hb dX5_digest_158 rfl (lv_at hl 2 rfl) ?_
                        refine lv_aload_n hx hb dX5_digest_159 rfl (lv_at hl 0 rfl) ?_
                        refine x_get (T := TX5) (N := 17) hx hb hts uX5 hown hK hP (i := 53) (by omega) (mw_53 hM) rfl 9 (by decide) u_fl_RX5_34 rfl dX5_digest_160 ?_
                        refine lv_iload_n hx hb dX5_digest_163 rfl (lv_at hl 1 rfl) ?_
                        refine x_ild hx hb hK hP (i := 62) (by omega) hM.2.2.2.2.2.2.2.2.2.1 (x := M.partMany k9) (by omega) (rfl) dX5_digest_164 ?_
                        refine x_to (((S.2.2.1.2.2.1 k9 : Int) - (S.2.2.1.2.1 k9 : Int))) (hk2) ?_
                        refine x_icmp_ge (tgt := 192) hx hb dX5_digest_165 (by decide) (by omega) (fun c_165 => ?_) (fun c_165 => ?_)
                        · refine x_iinc (lv' := [(1, .int (xI ((k9 : Int) + 1))), (0, .ref (ad 53)), (2, .int (xI (K : Int)))]) (k := 1) hx hb dX5_digest_192 hl rfl (by decide) rfl (fun ls hl => ?_)
                          refine lv_goto (tgt := 137) hx hb dX5_digest_195 (by decide) ?_
                          have hhe : (sp_hs S.2.2.1.2.2.2 (sp_mix (sp_dp S k9) ((S.2.2.1.2.2.1 k9 : Int) - (S.2.2.1.2.1 k9 : Int))) (S.2.2.1.2.1 k9) K) = (sp_dp S (k9 + 1)) := by rw [show K = S.2.2.1.2.2.1 k9 - S.2.2.1.2.1 k9 by omega, m_dp1]
                          have hM : MW cA ad ew158 (mO M.built M.builtMany M.told M.toldMany M.row M.rowMany M.figures M.partText M.partFrom M.partMany M.parts M.cut M.cutMany M.isCut M.cutGives M.cutAt (sp_dp S (k9 + 1))) := by rw [← hhe]; exact hM
                          exact ih137 (k9 + 1) ew158 _ _ (by omega) (by omega) hM ho hP hS ls (lv_sub hl [1, 0] rfl)
                        · have hfx := hwn.2 (S.2.2.1.2.1 k9 + K) (by dsimp only; omega)
                          dsimp only at hfx
                          refine lv_aload_n hx hb dX5_digest_168 rfl (lv_at hl 0 rfl) ?_
                          refine lv_aload_n hx hb dX5_digest_169 rfl (lv_at hl 0 rfl) ?_
                          refine x_get (T := TX5) (N := 17) hx hb hts uX5 hown hK hP (i := 53) (by omega) (mw_53 hM) rfl 7 (by decide) u_fl_RX5_28 rfl dX5_digest_170 ?_
                          refine lv_aload_n hx hb dX5_digest_173 rfl (lv_at hl 0 rfl) ?_
                          refine x_get (T := TX5) (N := 17) hx hb hts uX5 hown hK hP (i := 53) (by omega) (mw_53 hM) rfl 8 (by decide) u_fl_RX5_31 rfl dX5_digest_174 ?_
                          refine lv_iload_n hx hb dX5_digest_177 rfl (lv_at hl 1 rfl) ?_
                          refine x_ild hx hb hK hP (i := 61) (by omega) hM.2.2.2.2.2.2.2.2.1 (x := M.partFrom k9) (by omega) (rfl) dX5_digest_178 ?_
                          refine x_to ((S.2.2.1.2.1 k9 : Int)) (hk1) ?_
                          refine lv_iload_n hx hb dX5_digest_179 rfl (lv_at hl 2 rfl) ?_
                          refine x_iadd hx hb dX5_digest_180 ?_
                          refine x_ild hx hb hK hP (i := 60) (by omega) hM.2.2.2.2.2.2.2.1 (x := M.partText (Int.toNat ((S.2.2.1.2.1 k9 : Int) + (K : Int)))) (by omega) (rfl) dX5_digest_181 ?_
                          refine x_to (S.2.2.1.2.2.2 (S.2.2.1.2.1 k9 + K)) (by rw [show Int.toNat ((S.2.2.1.2.1 k9 : Int) + (K : Int)) = S.2.2.1.2.1 k9 + K by omega]; exact hk3 _ (by omega) (by omega)) ?_
                          refine x_i2l hx hb dX5_digest_182 (by omega) ?_
                          refine xm_v (i := 53) (As := [.long (xL (S.2.2.1.2.2.2 (S.2.2.1.2.1 k9 + K)))]) (rest := []) ⟨hx, hb, hml, hown, hts⟩ hl.1 (c_X5_mixs l D cA n ad ew158 _ hn hM (S.2.2.1.2.2.2 (S.2.2.1.2.1 k9 + K))) k_X5_mix u_ml_RX5_190 hK hN hP (by omega) (mw_53 hM) rfl rfl rfl rfl (Nat.le_of_ble_eq_true rfl) ⟨Nat.le_of_ble_eq_true rfl, Nat.le_of_ble_eq_true rfl⟩ ⟨Nat.le_of_ble_eq_true rfl, Nat.le_of_ble_eq_true rfl⟩ dX5_digest_183 hD hS hA (fun en6 H locs hp6 hP hS => ?_)
                          obtain ⟨hM, ho2⟩ := hp6
                          have ho := ho.tr ho2
                          refine x_iinc (lv' := [(2, .int (xI ((K : Int) + 1))), (0, .ref (ad 53)), (1, .int (xI (k9 : Int)))]) (k := 2) hx hb dX5_digest_186 hl rfl (by decide) rfl (fun ls hl => ?_)
                          refine lv_goto (tgt := 158) hx hb dX5_digest_189 (by decide) ?_
                          have hhe : (sp_mix (sp_hs S.2.2.1.2.2.2 (sp_mix (sp_dp S k9) ((S.2.2.1.2.2.1 k9 : Int) - (S.2.2.1.2.1 k9 : Int))) (S.2.2.1.2.1 k9) K) (S.2.2.1.2.2.2 (S.2.2.1.2.1 k9 + K))) = (sp_hs S.2.2.1.2.2.2 (sp_mix (sp_dp S k9) ((S.2.2.1.2.2.1 k9 : Int) - (S.2.2.1.2.1 k9 : Int))) (S.2.2.1.2.1 k9) (K + 1)) := by rw [m_hs1]
                          have hM : MW cA ad en6 (mO M.built M.builtMany M.told M.toldMany M.row M.rowMany M.figures M.partText M.partFrom M.partMany M.parts M.cut M.cutMany M.isCut M.cutGives M.cutAt (sp_hs S.2.2.1.2.2.2 (sp_mix (sp_dp S k9) ((S.2.2.1.2.2.1 k9 : Int) - (S.2.2.1.2.1 k9 : Int))) (S.2.2.1.2.1 k9) (K + 1))) := by rw [← hhe]; exact hM
                          exact ih158 (K + 1) en6 _ _ (by omega) (by omega) hM ho hP hS ls (lv_sub hl [1, 2, 0] rfl)
                    exact L158 _ 0 en5 _ _ (Nat.zero_le _) (Nat.lt_succ_self _) (show MW cA ad _ _ by rw [m_hs0]; exact hM) ho hP hS ls (lv_sub hl [1, 2, 0] rfl)
              exact L137 _ 0 en2 _ _ (Nat.zero_le _) (Nat.lt_succ_self _) (show MW cA ad _ _ by rw [show sp_dp S 0 = sp_mix (sp_dt S t) (S.2.2.1.1 : Int) from by rw [show t = 8 by omega, m_dp0]]; exact hM) ho hP hS ls (lv_sub hl [1, 0] rfl)
            · rcases hST : S.2.1 t with _ | rT
              · have hz9 : M.toldMany t = -1 := by have q := hR.2.1 t (by omega); rw [hST] at q; exact q
                refine lv_aload_n hx hb dX5_digest_74 rfl (lv_at hl 0 rfl) ?_
                refine lv_aload_n hx hb dX5_digest_75 rfl (lv_at hl 0 rfl) ?_
                refine x_get (T := TX5) (N := 17) hx hb hts uX5 hown hK hP (i := 53) (by omega) (mw_53 hM) rfl 3 (by decide) u_fl_RX5_19 rfl dX5_digest_76 ?_
                refine lv_iload_n hx hb dX5_digest_79 rfl (lv_at hl 1 rfl) ?_
                refine x_ild hx hb hK hP (i := 57) (by omega) hM.2.2.2.2.1 (x := M.toldMany t) (by omega) (rfl) dX5_digest_80 ?_
                refine x_to (-1) (hz9) ?_
                refine x_i2l hx hb dX5_digest_81 (by omega) ?_
                refine xm_v (i := 53) (As := [.long (xL (-1))]) (rest := []) ⟨hx, hb, hml, hown, hts⟩ hl.1 (c_X5_mixs l D cA n ad ew68 _ hn hM (-1)) k_X5_mix u_ml_RX5_190 hK hN hP (by omega) (mw_53 hM) rfl rfl rfl rfl (Nat.le_of_ble_eq_true rfl) ⟨Nat.le_of_ble_eq_true rfl, Nat.le_of_ble_eq_true rfl⟩ ⟨Nat.le_of_ble_eq_true rfl, Nat.le_of_ble_eq_true rfl⟩ dX5_digest_82 hD hS hA (fun en7 H locs hp7 hP hS => ?_)
                obtain ⟨hM, ho2⟩ := hp7
                have ho := ho.tr ho2
                refine x_iconst hx hb dX5_digest_85 ?_
                refine lv_istore_n (lv' := [(2, .int (xI 0)), (0, .ref (ad 53)), (1, .int (xI (t : Int)))]) hx hb dX5_digest_86 rfl hl (by decide) rfl (fun ls hl => ?_)
                have L87 : ∀ (nn : Nat) (K : Nat) (ew87 : Nat → va_E) (H : Heap) (locs : List Loc), (K ≤ 0) → (0 - K) < nn → (MW cA ad ew87 (mO M.built M.builtMany M.told M.toldMany M.row M.rowMany M.figures M.partText M.partFrom M.partMany M.parts M.cut M.cutMany M.isCut M.cutGives M.cutAt (sp_mix (sp_dt S t) (-1)))) → (xO 53 68 en ew87) → va_P D vwCl (xw n ad ew87) H → va_S (xA n ad sz) s.heap H locs → ∀ ls : Array Slot, lv_has ls 3 [(0, .ref (ad 53)), (1, .int (xI (t : Int))), (2, .int (xI (K : Int)))] → W p l e (xrm 3 68) s mm args below meth c H locs 0 0 (MQ below (va_Ql (fun r u => r = am_digest S ∧ ∃ M' : MO, MW cA ad u M' ∧ MR S M' ∧ xO 53 68 en u) (xE D n ad) (xA n ad sz)) args s 0 0 (xA n ad sz)) (F0 mm 87 ls []) := by
                  intro nn
                  induction nn with
                  | zero =>
                    intro K ew87 H locs hk8 hmm hM ho hP hS ls hl
                    exact absurd hmm (Nat.not_lt_zero _)
                  | succ nn ih87 =>
                    intro K ew87 H locs hk8 hmm hM ho hP hS ls hl
                    refine lv_iload_n hx hb dX5_digest_87 rfl (lv_at hl 2 rfl) ?_
                    refine lv_aload_n hx hb dX5_digest_88 rfl (lv_at hl 0 rfl) ?_
                    refine x_get (T := TX5) (N := 17) hx hb hts uX5 hown hK hP (i := 53) (by omega) (mw_53 hM) rfl 3 (by decide) u_fl_RX5_19 rfl dX5_digest_89 ?_
                    refine lv_iload_n hx hb dX5_digest_92 rfl (lv_at hl 1 rfl) ?_
                    refine x_ild hx hb hK hP (i := 57) (by omega) hM.2.2.2.2.1 (x := M.toldMany t) (by omega) (rfl) dX5_digest_93 ?_
                    refine x_to (-1) (hz9) ?_
                    refine x_icmp_ge (tgt := 120) hx hb dX5_digest_94 (by decide) (by omega) (fun c_94 => ?_) (fun c_94 => absurd c_94 (by omega))
                    refine x_iinc (lv' := [(1, .int (xI ((t : Int) + 1))), (0, .ref (ad 53)), (2, .int (xI (K : Int)))]) (k := 1) hx hb dX5_digest_120 hl rfl (by decide) rfl (fun ls hl => ?_)
                    refine lv_goto (tgt := 68) hx hb dX5_digest_123 (by decide) ?_
                    have hhe : (sp_mix (sp_dt S t) (-1)) = (sp_dt S (t + 1)) := by rw [m_dtn hST]
                    have hM : MW cA ad ew87 (mO M.built M.builtMany M.told M.toldMany M.row M.rowMany M.figures M.partText M.partFrom M.partMany M.parts M.cut M.cutMany M.isCut M.cutGives M.cutAt (sp_dt S (t + 1))) := by rw [← hhe]; exact hM
                    exact ih68 (t + 1) ew87 _ _ (by omega) (by omega) hM ho hP hS ls (lv_sub hl [1, 0] rfl)
                exact L87 _ 0 en7 _ _ (Nat.zero_le _) (Nat.lt_succ_self _) hM ho hP hS ls (lv_sub hl [1, 2, 0] rfl)
              · have hT9 : M.toldMany t = (rT.1 : Int) ∧ ∀ k : Nat, k < rT.1 → M.told (200 * t + k) = rT.2 k := by have q := hR.2.1 t (by omega); rw [hST] at q; exact q
                have hz9 := hT9.1
                have hmT := (hW.2.1 t rT (by omega) hST).1
                have hfT := (hW.2.1 t rT (by omega) hST).2
                refine lv_aload_n hx hb dX5_digest_74 rfl (lv_at hl 0 rfl) ?_
                refine lv_aload_n hx hb dX5_digest_75 rfl (lv_at hl 0 rfl) ?_
                refine x_get (T := TX5) (N := 17) hx hb hts uX5 hown hK hP (i := 53) (by omega) (mw_53 hM) rfl 3 (by decide) u_fl_RX5_19 rfl dX5_digest_76 ?_
                refine lv_iload_n hx hb dX5_digest_79 rfl (lv_at hl 1 rfl) ?_
                refine x_ild hx hb hK hP (i := 57) (by omega) hM.2.2.2.2.1 (x := M.toldMany t) (by omega) (rfl) dX5_digest_80 ?_
                refine x_to ((rT.1 : Int)) (hz9) ?_
                refine x_i2l hx hb dX5_digest_81 (by omega) ?_
                refine xm_v (i := 53) (As := [.long (xL (rT.1 : Int))]) (rest := []) ⟨hx, hb, hml, hown, hts⟩ hl.1 (c_X5_mixs l D cA n ad ew68 _ hn hM (rT.1 : Int)) k_X5_mix u_ml_RX5_190 hK hN hP (by omega) (mw_53 hM) rfl rfl rfl rfl (Nat.le_of_ble_eq_true rfl) ⟨Nat.le_of_ble_eq_true rfl, Nat.le_of_ble_eq_true rfl⟩ ⟨Nat.le_of_ble_eq_true rfl, Nat.le_of_ble_eq_true rfl⟩ dX5_digest_82 hD hS hA (fun en8 H locs hp8 hP hS => ?_)
                obtain ⟨hM, ho2⟩ := hp8
                have ho := ho.tr ho2
                refine x_iconst hx hb dX5_digest_85 ?_
                refine lv_istore_n (lv' := [(2, .int (xI 0)), (0, .ref (ad 53)), (1, .int (xI (t : Int)))]) hx hb dX5_digest_86 rfl hl (by decide) rfl (fun ls hl => ?_)
                have L87 : ∀ (nn : Nat) (K : Nat) (ew87 : Nat → va_E) (H : Heap) (locs : List Loc), (K ≤ rT.1) → (rT.1 - K) < nn → (MW cA ad ew87 (mO M.built M.builtMany M.told M.toldMany M.row M.rowMany M.figures M.partText M.partFrom M.partMany M.parts M.cut M.cutMany M.isCut M.cutGives M.cutAt (sp_hs rT.2 (sp_mix (sp_dt S t) (rT.1 : Int)) 0 K))) → (xO 53 68 en ew87) → va_P D vwCl (xw n ad ew87) H → va_S (xA n ad sz) s.heap H locs → ∀ ls : Array Slot, lv_has ls 3 [(0, .ref (ad 53)), (1, .int (xI (t : Int))), (2, .int (xI (K : Int)))] → W p l e (xrm 3 68) s mm args below meth c H locs 0 0 (MQ below (va_Ql (fun r u => r = am_digest S ∧ ∃ M' : MO, MW cA ad u M' ∧ MR S M' ∧ xO 53 68 en u) (xE D n ad) (xA n ad sz)) args s 0 0 (xA n ad sz)) (F0 mm 87 ls []) := by
                  intro nn
                  induction nn with
                  | zero =>
                    intro K ew87 H locs hk8 hmm hM ho hP hS ls hl
                    exact absurd hmm (Nat.not_lt_zero _)
                  | succ nn ih87 =>
                    intro K ew87 H locs hk8 hmm hM ho hP hS ls hl
                    refine lv_iload_n hx hb dX5_digest_87 rfl (lv_at hl 2 rfl) ?_
                    refine lv_aload_n hx hb dX5_digest_88 rfl (lv_at hl 0 rfl) ?_
                    refine x_get (T := TX5) (N := 17) hx hb hts uX5 hown hK hP (i := 53) (by omega) (mw_53 hM) rfl 3 (by decide) u_fl_RX5_19 rfl dX5_digest_89 ?_
                    refine lv_iload_n hx hb dX5_digest_92 rfl (lv_at hl 1 rfl) ?_
                    refine x_ild hx hb hK hP (i := 57) (by omega) hM.2.2.2.2.1 (x := M.toldMany t) (by omega) (rfl) dX5_digest_93 ?_
                    refine x_to ((rT.1 : Int)) (hz9) ?_
                    refine x_icmp_ge (tgt := 120) hx hb dX5_digest_94 (by decide) (by omega) (fun c_94 => ?_) (fun c_94 => ?_)
                    · refine x_iinc (lv' := [(1, .int (xI ((t : Int) + 1))), (0, .ref (ad 53)), (2, .int (xI (K : Int)))]) (k := 1) hx hb dX5_digest_120 hl rfl (by decide) rfl (fun ls hl => ?_)
                      refine lv_goto (tgt := 68) hx hb dX5_digest_123 (by decide) ?_
                      have hhe : (sp_hs rT.2 (sp_mix (sp_dt S t) (rT.1 : Int)) 0 K) = (sp_dt S (t + 1)) := by rw [show K = rT.1 by omega, m_dts hST]
                      have hM : MW cA ad ew87 (mO M.built M.builtMany M.told M.toldMany M.row M.rowMany M.figures M.partText M.partFrom M.partMany M.parts M.cut M.cutMany M.isCut M.cutGives M.cutAt (sp_dt S (t + 1))) := by rw [← hhe]; exact hM
                      exact ih68 (t + 1) ew87 _ _ (by omega) (by omega) hM ho hP hS ls (lv_sub hl [1, 0] rfl)
                    · have hfx := hfT K (by omega)
                      refine lv_aload_n hx hb dX5_digest_97 rfl (lv_at hl 0 rfl) ?_
                      refine lv_aload_n hx hb dX5_digest_98 rfl (lv_at hl 0 rfl) ?_
                      refine x_get (T := TX5) (N := 17) hx hb hts uX5 hown hK hP (i := 53) (by omega) (mw_53 hM) rfl 2 (by decide) u_fl_RX5_16 rfl dX5_digest_99 ?_
                      refine x_sipush hx hb dX5_digest_102 (by decide +kernel) ?_
                      refine lv_iload_n hx hb dX5_digest_105 rfl (lv_at hl 1 rfl) ?_
                      refine x_imul hx hb dX5_digest_106 ?_
                      refine lv_iload_n hx hb dX5_digest_107 rfl (lv_at hl 2 rfl) ?_
                      refine x_iadd hx hb dX5_digest_108 ?_
                      refine x_ild hx hb hK hP (i := 56) (by omega) hM.2.2.2.1 (x := M.told ((200 * t) + K)) (by omega) (congrArg (fun q => xI (M.told q)) (show Int.toNat ((200 * (t : Int)) + (K : Int)) = (200 * t) + K by omega)) dX5_digest_109 ?_
                      refine x_to (rT.2 K) (hT9.2 K (by omega)) ?_
                      refine x_i2l hx hb dX5_digest_110 (by omega) ?_
                      refine xm_v (i := 53) (As := [.long (xL (rT.2 K))]) (rest := []) ⟨hx, hb, hml, hown, hts⟩ hl.1 (c_X5_mixs l D cA n ad ew87 _ hn hM (rT.2 K)) k_X5_mix u_ml_RX5_190 hK hN hP (by omega) (mw_53 hM) rfl rfl rfl rfl (Nat.le_of_ble_eq_true rfl) ⟨Nat.le_of_ble_eq_true rfl, Nat.le_of_ble_eq_true rfl⟩ ⟨Nat.le_of_ble_eq_true rfl, Nat.le_of_ble_eq_true rfl⟩ dX5_digest_111 hD hS hA (fun en9 H locs hp9 hP hS => ?_)
                      obtain ⟨hM, ho2⟩ := hp9
                      have ho := ho.tr ho2
                      refine x_iinc (lv' := [(2, .int (xI ((K : Int) + 1))), (0, .ref (ad 53)), (1, .int (xI (t : Int)))]) (k := 2) hx hb dX5_digest_114 hl rfl (by decide) rfl (fun ls hl => ?_)
                      refine lv_goto (tgt := 87) hx hb dX5_digest_117 (by decide) ?_
                      have hhe : (sp_mix (sp_hs rT.2 (sp_mix (sp_dt S t) (rT.1 : Int)) 0 K) (rT.2 K)) = (sp_hs rT.2 (sp_mix (sp_dt S t) (rT.1 : Int)) 0 (K + 1)) := by rw [m_hs1, Nat.zero_add]
                      have hM : MW cA ad en9 (mO M.built M.builtMany M.told M.toldMany M.row M.rowMany M.figures M.partText M.partFrom M.partMany M.parts M.cut M.cutMany M.isCut M.cutGives M.cutAt (sp_hs rT.2 (sp_mix (sp_dt S t) (rT.1 : Int)) 0 (K + 1))) := by rw [← hhe]; exact hM
                      exact ih87 (K + 1) en9 _ _ (by omega) (by omega) hM ho hP hS ls (lv_sub hl [1, 2, 0] rfl)
                exact L87 _ 0 en8 _ _ (Nat.zero_le _) (Nat.lt_succ_self _) (show MW cA ad _ _ by rw [m_hs0]; exact hM) ho hP hS ls (lv_sub hl [1, 2, 0] rfl)
        exact L68 _ 0 ew9 _ _ (Nat.zero_le _) (Nat.lt_succ_self _) (show MW cA ad _ _ by rw [show sp_dt S 0 = sp_db S b from by rw [show b = 4 by omega, m_dt0]]; exact hM) ho hP hS ls (lv_sub hl [1, 0] rfl)
      · have hb9 := hR.1 b (by omega)
        have hmb := (hW.1 b (by omega)).1
        have hfb := (hW.1 b (by omega)).2
        refine lv_aload_n hx hb dX5_digest_14 rfl (lv_at hl 0 rfl) ?_
        refine lv_aload_n hx hb dX5_digest_15 rfl (lv_at hl 0 rfl) ?_
        refine x_get (T := TX5) (N := 17) hx hb hts uX5 hown hK hP (i := 53) (by omega) (mw_53 hM) rfl 1 (by decide) u_fl_RX5_13 rfl dX5_digest_16 ?_
        refine lv_iload_n hx hb dX5_digest_19 rfl (lv_at hl 1 rfl) ?_
        refine x_ild hx hb hK hP (i := 55) (by omega) hM.2.2.1 (x := M.builtMany b) (by omega) (rfl) dX5_digest_20 ?_
        refine x_to (((S.1 b).1 : Int)) (hb9.1) ?_
        refine x_i2l hx hb dX5_digest_21 (by omega) ?_
        refine xm_v (i := 53) (As := [.long (xL ((S.1 b).1 : Int))]) (rest := []) ⟨hx, hb, hml, hown, hts⟩ hl.1 (c_X5_mixs l D cA n ad ew9 _ hn hM ((S.1 b).1 : Int)) k_X5_mix u_ml_RX5_190 hK hN hP (by omega) (mw_53 hM) rfl rfl rfl rfl (Nat.le_of_ble_eq_true rfl) ⟨Nat.le_of_ble_eq_true rfl, Nat.le_of_ble_eq_true rfl⟩ ⟨Nat.le_of_ble_eq_true rfl, Nat.le_of_ble_eq_true rfl⟩ dX5_digest_22 hD hS hA (fun en10 H locs hp10 hP hS => ?_)
        obtain ⟨hM, ho2⟩ := hp10
        have ho := ho.tr ho2
        refine x_iconst hx hb dX5_digest_25 ?_
        refine lv_istore_n (lv' := [(2, .int (xI 0)), (0, .ref (ad 53)), (1, .int (xI (b : Int)))]) hx hb dX5_digest_26 rfl hl (by decide) rfl (fun ls hl => ?_)
        have L27 : ∀ (nn : Nat) (K : Nat) (ew27 : Nat → va_E) (H : Heap) (locs : List Loc), (K ≤ (S.1 b).1) → ((S.1 b).1 - K) < nn → (MW cA ad ew27 (mO M.built M.builtMany M.told M.toldMany M.row M.rowMany M.figures M.partText M.partFrom M.partMany M.parts M.cut M.cutMany M.isCut M.cutGives M.cutAt (sp_hs (S.1 b).2 (sp_mix (sp_db S b) ((S.1 b).1 : Int)) 0 K))) → (xO 53 68 en ew27) → va_P D vwCl (xw n ad ew27) H → va_S (xA n ad sz) s.heap H locs → ∀ ls : Array Slot, lv_has ls 3 [(0, .ref (ad 53)), (1, .int (xI (b : Int))), (2, .int (xI (K : Int)))] → W p l e (xrm 3 68) s mm args below meth c H locs 0 0 (MQ below (va_Ql (fun r u => r = am_digest S ∧ ∃ M' : MO, MW cA ad u M' ∧ MR S M' ∧ xO 53 68 en u) (xE D n ad) (xA n ad sz)) args s 0 0 (xA n ad sz)) (F0 mm 27 ls []) := by
          intro nn
          induction nn with
          | zero =>
            intro K ew27 H locs hk8 hmm hM ho hP hS ls hl
            exact absurd hmm (Nat.not_lt_zero _)
          | succ nn ih27 =>
            intro K ew27 H locs hk8 hmm hM ho hP hS ls hl
            refine lv_iload_n hx hb dX5_digest_27 rfl (lv_at hl 2 rfl) ?_
            refine lv_aload_n hx hb dX5_digest_28 rfl (lv_at hl 0 rfl) ?_
            refine x_get (T := TX5) (N := 17) hx hb hts uX5 hown hK hP (i := 53) (by omega) (mw_53 hM) rfl 1 (by decide) u_fl_RX5_13 rfl dX5_digest_29 ?_
            refine lv_iload_n hx hb dX5_digest_32 rfl (lv_at hl 1 rfl) ?_
            refine x_ild hx hb hK hP (i := 55) (by omega) hM.2.2.1 (x := M.builtMany b) (by omega) (rfl) dX5_digest_33 ?_
            refine x_to (((S.1 b).1 : Int)) (hb9.1) ?_
            refine x_icmp_ge (tgt := 60) hx hb dX5_digest_34 (by decide) (by omega) (fun c_34 => ?_) (fun c_34 => ?_)
            · refine x_iinc (lv' := [(1, .int (xI ((b : Int) + 1))), (0, .ref (ad 53)), (2, .int (xI (K : Int)))]) (k := 1) hx hb dX5_digest_60 hl rfl (by decide) rfl (fun ls hl => ?_)
              refine lv_goto (tgt := 9) hx hb dX5_digest_63 (by decide) ?_
              have hhe : (sp_hs (S.1 b).2 (sp_mix (sp_db S b) ((S.1 b).1 : Int)) 0 K) = (sp_db S (b + 1)) := by rw [show K = (S.1 b).1 by omega, m_db1]
              have hM : MW cA ad ew27 (mO M.built M.builtMany M.told M.toldMany M.row M.rowMany M.figures M.partText M.partFrom M.partMany M.parts M.cut M.cutMany M.isCut M.cutGives M.cutAt (sp_db S (b + 1))) := by rw [← hhe]; exact hM
              exact ih9 (b + 1) ew27 _ _ (by omega) (by omega) hM ho hP hS ls (lv_sub hl [1, 0] rfl)
            · have hfx := hfb K (by omega)
              refine lv_aload_n hx hb dX5_digest_37 rfl (lv_at hl 0 rfl) ?_
              refine lv_aload_n hx hb dX5_digest_38 rfl (lv_at hl 0 rfl) ?_
              refine x_get (T := TX5) (N := 17) hx hb hts uX5 hown hK hP (i := 53) (by omega) (mw_53 hM) rfl 0 (by decide) u_fl_RX5_7 rfl dX5_digest_39 ?_
              refine x_sipush hx hb dX5_digest_42 (by decide +kernel) ?_
              refine lv_iload_n hx hb dX5_digest_45 rfl (lv_at hl 1 rfl) ?_
              refine x_imul hx hb dX5_digest_46 ?_
              refine lv_iload_n hx hb dX5_digest_47 rfl (lv_at hl 2 rfl) ?_
              refine x_iadd hx hb dX5_digest_48 ?_
              refine x_ild hx hb hK hP (i := 54) (by omega) hM.2.1 (x := M.built ((200 * b) + K)) (by omega) (congrArg (fun q => xI (M.built q)) (show Int.toNat ((200 * (b : Int)) + (K : Int)) = (200 * b) + K by omega)) dX5_digest_49 ?_
              refine x_to ((S.1 b).2 K) (hb9.2 K (by omega)) ?_
              refine x_i2l hx hb dX5_digest_50 (by omega) ?_
              refine xm_v (i := 53) (As := [.long (xL ((S.1 b).2 K))]) (rest := []) ⟨hx, hb, hml, hown, hts⟩ hl.1 (c_X5_mixs l D cA n ad ew27 _ hn hM ((S.1 b).2 K)) k_X5_mix u_ml_RX5_190 hK hN hP (by omega) (mw_53 hM) rfl rfl rfl rfl (Nat.le_of_ble_eq_true rfl) ⟨Nat.le_of_ble_eq_true rfl, Nat.le_of_ble_eq_true rfl⟩ ⟨Nat.le_of_ble_eq_true rfl, Nat.le_of_ble_eq_true rfl⟩ dX5_digest_51 hD hS hA (fun en11 H locs hp11 hP hS => ?_)
              obtain ⟨hM, ho2⟩ := hp11
              have ho := ho.tr ho2
              refine x_iinc (lv' := [(2, .int (xI ((K : Int) + 1))), (0, .ref (ad 53)), (1, .int (xI (b : Int)))]) (k := 2) hx hb dX5_digest_54 hl rfl (by decide) rfl (fun ls hl => ?_)
              refine lv_goto (tgt := 27) hx hb dX5_digest_57 (by decide) ?_
              have hhe : (sp_mix (sp_hs (S.1 b).2 (sp_mix (sp_db S b) ((S.1 b).1 : Int)) 0 K) ((S.1 b).2 K)) = (sp_hs (S.1 b).2 (sp_mix (sp_db S b) ((S.1 b).1 : Int)) 0 (K + 1)) := by rw [m_hs1, Nat.zero_add]
              have hM : MW cA ad en11 (mO M.built M.builtMany M.told M.toldMany M.row M.rowMany M.figures M.partText M.partFrom M.partMany M.parts M.cut M.cutMany M.isCut M.cutGives M.cutAt (sp_hs (S.1 b).2 (sp_mix (sp_db S b) ((S.1 b).1 : Int)) 0 (K + 1))) := by rw [← hhe]; exact hM
              exact ih27 (K + 1) en11 _ _ (by omega) (by omega) hM ho hP hS ls (lv_sub hl [1, 2, 0] rfl)
        exact L27 _ 0 en10 _ _ (Nat.zero_le _) (Nat.lt_succ_self _) (show MW cA ad _ _ by rw [m_hs0]; exact hM) ho hP hS ls (lv_sub hl [1, 2, 0] rfl)
  exact L9 _ 0 en1 _ _ (Nat.zero_le _) (Nat.lt_succ_self _) (show MW cA ad _ _ by rw [show sp_db S 0 = (xL 17) from m_db0 S]; exact hM) ho hP hS ls (lv_sub hl [1, 0] rfl)
