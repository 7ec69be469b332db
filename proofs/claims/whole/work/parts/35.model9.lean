set_option maxRecDepth 20000 in
theorem c_X5_region (l : Launch) (D : va_G) (cA : Nat → ClassId) (n : Nat) (ad : Nat → Nat) (en : Nat → va_E) (hn : 68 ≤ n) {M : MO} (hM : MW cA ad en M) {S : xSt} (hW : WF S) (hR : MR S M) (z1 : Int) (hz1 : -2147483648 ≤ z1 ∧ z1 ≤ 2147483647) (z2 : Int) (hz2 : -2147483648 ≤ z2 ∧ z2 ≤ 2147483647) (z3 : Int) (hz3 : -2147483648 ≤ z3 ∧ z3 ≤ 2147483647) (z4 : Int) (hz4 : -2147483648 ≤ z4 ∧ z4 ≤ 2147483647) (z5 : Int) (hz5 : -2147483648 ≤ z5 ∧ z5 ≤ 2147483647) : Met l yX5_region (Cond.code yX5_region cX5_region 9 (some .int) :: xU) (xrm 3 67) (va_Pc [.ref (ad 53), .int (xI z1), .int (xI z2), .int (xI z3), .int (xI z4), .int (xI z5)] (xB D cA n ad en)) (vp_Si (fun z => z = xI (am_region S z1 z2 z3 z4 z5))) 0 0 (fun _ => False) := by
  refine xmet (by decide) (Nat.le_of_ble_eq_true rfl) (fun p e s mm args below meth c ls hx hb hrt hml hown hts hlocks hname hB hl => ?_)
  obtain ⟨hP, hK, hN⟩ := hB
  have hl : lv_has ls 9 [(0, .ref (ad 53)), (1, .int (xI z1)), (2, .int (xI z2)), (3, .int (xI z3)), (4, .int (xI z4)), (5, .int (xI z5))] := hl
  rcases Classical.em (0 ≤ z1 ∧ z1 < 8) with hx_z1 | hx_z1
  · obtain ⟨t1, rfl⟩ : ∃ q : Nat, z1 = (q : Int) := ⟨z1.toNat, by omega⟩
    have h_t1 : t1 < 8 := by omega
    rcases hS_t1 : S.2.1 t1 with _ | r_t1
    · rcases Classical.em (0 ≤ z3 ∧ z3 < 8) with hx_z3 | hx_z3
      · obtain ⟨t3, rfl⟩ : ∃ q : Nat, z3 = (q : Int) := ⟨z3.toNat, by omega⟩
        have h_t3 : t3 < 8 := by omega
        rcases hS_t3 : S.2.1 t3 with _ | r_t3
        · have hz_t1 : M.toldMany t1 = -1 := by have q := hR.2.1 t1 h_t1; rw [hS_t1] at q; exact q
          have hz_t3 : M.toldMany t3 = -1 := by have q := hR.2.1 t3 h_t3; rw [hS_t3] at q; exact q
          refine lv_aload_n hx hb dX5_region_0 rfl (lv_at hl 0 rfl) ?_
          refine lv_iload_n hx hb dX5_region_1 rfl (lv_at hl 1 rfl) ?_
          refine lv_iload_n hx hb dX5_region_2 rfl (lv_at hl 3 rfl) ?_
          have hy_t1 : M.toldMany (Int.toNat (t1 : Int)) = -1 := hz_t1
          have hy_t3 : M.toldMany (Int.toNat (t3 : Int)) = -1 := hz_t3
          refine xv_i (i := 53) (As := [.int (xI (t1 : Int)), .int (xI (t3 : Int))]) (rest := []) ⟨hx, hb, hml, hown, hts⟩ hl.1 (c_X5_barsTwo l D cA n ad en hn hM (t1 : Int) (t3 : Int) (-1003) (by omega) (by omega) (fun _ => by show -1 ≤ M.toldMany t1 ∧ M.toldMany t1 ≤ 200; omega) (fun _ => by show -1 ≤ M.toldMany t3 ∧ M.toldMany t3 ≤ 200; omega) (by omega)) k_X5_barsTwo u_ml_RX5_128 hK hN hP (by omega) hM.1 rfl rfl rfl rfl (Nat.le_of_ble_eq_true rfl) ⟨Nat.le_of_ble_eq_true rfl, Nat.le_of_ble_eq_true rfl⟩ ⟨Nat.le_of_ble_eq_true rfl, Nat.le_of_ble_eq_true rfl⟩ dX5_region_3 ?_
          refine lv_istore (lv' := [(6, .int (xI (-1003))), (0, .ref (ad 53)), (1, .int (xI (t1 : Int))), (2, .int (xI z2)), (3, .int (xI (t3 : Int))), (4, .int (xI z4)), (5, .int (xI z5))]) hx hb dX5_region_6 hl (by decide) rfl (fun ls hl => ?_)
          refine lv_iload hx hb dX5_region_8 (lv_at hl 0 rfl) ?_
          refine x_if_ge (tgt := 16) hx hb dX5_region_10 (by decide) (by omega) (fun c_10 => absurd c_10 (by omega)) (fun c_10 => ?_)
          refine lv_iload hx hb dX5_region_13 (lv_at hl 0 rfl) ?_
          exact xr_i hx hb hrt hlocks ((by unfold am_region; simp only [Int.toNat_natCast]; rw [sp_if_f (by omega), sp_if_t (by simp [hS_t1, hS_t3])])) dX5_region_15
        · have hz_t1 : M.toldMany t1 = -1 := by have q := hR.2.1 t1 h_t1; rw [hS_t1] at q; exact q
          have hT_t3 : M.toldMany t3 = (r_t3.1 : Int) ∧ ∀ k : Nat, k < r_t3.1 → M.told (200 * t3 + k) = r_t3.2 k := by have q := hR.2.1 t3 h_t3; rw [hS_t3] at q; exact q
          have hz_t3 := hT_t3.1
          have hm_t3 := (hW.2.1 t3 r_t3 h_t3 hS_t3).1
          have hfb_t3 := (hW.2.1 t3 r_t3 h_t3 hS_t3).2
          refine lv_aload_n hx hb dX5_region_0 rfl (lv_at hl 0 rfl) ?_
          refine lv_iload_n hx hb dX5_region_1 rfl (lv_at hl 1 rfl) ?_
          refine lv_iload_n hx hb dX5_region_2 rfl (lv_at hl 3 rfl) ?_
          have hy_t1 : M.toldMany (Int.toNat (t1 : Int)) = -1 := hz_t1
          have hy_t3 : M.toldMany (Int.toNat (t3 : Int)) = (r_t3.1 : Int) := hz_t3
          refine xv_i (i := 53) (As := [.int (xI (t1 : Int)), .int (xI (t3 : Int))]) (rest := []) ⟨hx, hb, hml, hown, hts⟩ hl.1 (c_X5_barsTwo l D cA n ad en hn hM (t1 : Int) (t3 : Int) (-1003) (by omega) (by omega) (fun _ => by show -1 ≤ M.toldMany t1 ∧ M.toldMany t1 ≤ 200; omega) (fun _ => by show -1 ≤ M.toldMany t3 ∧ M.toldMany t3 ≤ 200; omega) (by omega)) k_X5_barsTwo u_ml_RX5_128 hK hN hP (by omega) hM.1 rfl rfl rfl rfl (Nat.le_of_ble_eq_true rfl) ⟨Nat.le_of_ble_eq_true rfl, Nat.le_of_ble_eq_true rfl⟩ ⟨Nat.le_of_ble_eq_true rfl, Nat.le_of_ble_eq_true rfl⟩ dX5_region_3 ?_
          refine lv_istore (lv' := [(6, .int (xI (-1003))), (0, .ref (ad 53)), (1, .int (xI (t1 : Int))), (2, .int (xI z2)), (3, .int (xI (t3 : Int))), (4, .int (xI z4)), (5, .int (xI z5))]) hx hb dX5_region_6 hl (by decide) rfl (fun ls hl => ?_)
          refine lv_iload hx hb dX5_region_8 (lv_at hl 0 rfl) ?_
          refine x_if_ge (tgt := 16) hx hb dX5_region_10 (by decide) (by omega) (fun c_10 => absurd c_10 (by omega)) (fun c_10 => ?_)
          refine lv_iload hx hb dX5_region_13 (lv_at hl 0 rfl) ?_
          exact xr_i hx hb hrt hlocks ((by unfold am_region; simp only [Int.toNat_natCast]; simp only [sp_get_s hS_t3]; rw [sp_if_f (by omega), sp_if_t (by simp [hS_t1, hS_t3])])) dX5_region_15
      · have hz_t1 : M.toldMany t1 = -1 := by have q := hR.2.1 t1 h_t1; rw [hS_t1] at q; exact q
        refine lv_aload_n hx hb dX5_region_0 rfl (lv_at hl 0 rfl) ?_
        refine lv_iload_n hx hb dX5_region_1 rfl (lv_at hl 1 rfl) ?_
        refine lv_iload_n hx hb dX5_region_2 rfl (lv_at hl 3 rfl) ?_
        have hy_t1 : M.toldMany (Int.toNat (t1 : Int)) = -1 := hz_t1
        refine xv_i (i := 53) (As := [.int (xI (t1 : Int)), .int (xI z3)]) (rest := []) ⟨hx, hb, hml, hown, hts⟩ hl.1 (c_X5_barsTwo l D cA n ad en hn hM (t1 : Int) z3 (-1001) (by omega) (by omega) (fun _ => by show -1 ≤ M.toldMany t1 ∧ M.toldMany t1 ≤ 200; omega) (fun h => absurd h (by omega)) (by omega)) k_X5_barsTwo u_ml_RX5_128 hK hN hP (by omega) hM.1 rfl rfl rfl rfl (Nat.le_of_ble_eq_true rfl) ⟨Nat.le_of_ble_eq_true rfl, Nat.le_of_ble_eq_true rfl⟩ ⟨Nat.le_of_ble_eq_true rfl, Nat.le_of_ble_eq_true rfl⟩ dX5_region_3 ?_
        refine lv_istore (lv' := [(6, .int (xI (-1001))), (0, .ref (ad 53)), (1, .int (xI (t1 : Int))), (2, .int (xI z2)), (3, .int (xI z3)), (4, .int (xI z4)), (5, .int (xI z5))]) hx hb dX5_region_6 hl (by decide) rfl (fun ls hl => ?_)
        refine lv_iload hx hb dX5_region_8 (lv_at hl 0 rfl) ?_
        refine x_if_ge (tgt := 16) hx hb dX5_region_10 (by decide) (by omega) (fun c_10 => absurd c_10 (by omega)) (fun c_10 => ?_)
        refine lv_iload hx hb dX5_region_13 (lv_at hl 0 rfl) ?_
        exact xr_i hx hb hrt hlocks ((by unfold am_region; simp only [Int.toNat_natCast]; rw [sp_if_t (by omega)])) dX5_region_15
    · rcases Classical.em (0 ≤ z3 ∧ z3 < 8) with hx_z3 | hx_z3
      · obtain ⟨t3, rfl⟩ : ∃ q : Nat, z3 = (q : Int) := ⟨z3.toNat, by omega⟩
        have h_t3 : t3 < 8 := by omega
        rcases hS_t3 : S.2.1 t3 with _ | r_t3
        · have hT_t1 : M.toldMany t1 = (r_t1.1 : Int) ∧ ∀ k : Nat, k < r_t1.1 → M.told (200 * t1 + k) = r_t1.2 k := by have q := hR.2.1 t1 h_t1; rw [hS_t1] at q; exact q
          have hz_t1 := hT_t1.1
          have hm_t1 := (hW.2.1 t1 r_t1 h_t1 hS_t1).1
          have hfb_t1 := (hW.2.1 t1 r_t1 h_t1 hS_t1).2
          have hz_t3 : M.toldMany t3 = -1 := by have q := hR.2.1 t3 h_t3; rw [hS_t3] at q; exact q
          refine lv_aload_n hx hb dX5_region_0 rfl (lv_at hl 0 rfl) ?_
          refine lv_iload_n hx hb dX5_region_1 rfl (lv_at hl 1 rfl) ?_
          refine lv_iload_n hx hb dX5_region_2 rfl (lv_at hl 3 rfl) ?_
          have hy_t1 : M.toldMany (Int.toNat (t1 : Int)) = (r_t1.1 : Int) := hz_t1
          have hy_t3 : M.toldMany (Int.toNat (t3 : Int)) = -1 := hz_t3
          refine xv_i (i := 53) (As := [.int (xI (t1 : Int)), .int (xI (t3 : Int))]) (rest := []) ⟨hx, hb, hml, hown, hts⟩ hl.1 (c_X5_barsTwo l D cA n ad en hn hM (t1 : Int) (t3 : Int) (-1003) (by omega) (by omega) (fun _ => by show -1 ≤ M.toldMany t1 ∧ M.toldMany t1 ≤ 200; omega) (fun _ => by show -1 ≤ M.toldMany t3 ∧ M.toldMany t3 ≤ 200; omega) (by omega)) k_X5_barsTwo u_ml_RX5_128 hK hN hP (by omega) hM.1 rfl rfl rfl rfl (Nat.le_of_ble_eq_true rfl) ⟨Nat.le_of_ble_eq_true rfl, Nat.le_of_ble_eq_true rfl⟩ ⟨Nat.le_of_ble_eq_true rfl, Nat.le_of_ble_eq_true rfl⟩ dX5_region_3 ?_
          refine lv_istore (lv' := [(6, .int (xI (-1003))), (0, .ref (ad 53)), (1, .int (xI (t1 : Int))), (2, .int (xI z2)), (3, .int (xI (t3 : Int))), (4, .int (xI z4)), (5, .int (xI z5))]) hx hb dX5_region_6 hl (by decide) rfl (fun ls hl => ?_)
          refine lv_iload hx hb dX5_region_8 (lv_at hl 0 rfl) ?_
          refine x_if_ge (tgt := 16) hx hb dX5_region_10 (by decide) (by omega) (fun c_10 => absurd c_10 (by omega)) (fun c_10 => ?_)
          refine lv_iload hx hb dX5_region_13 (lv_at hl 0 rfl) ?_
          exact xr_i hx hb hrt hlocks ((by unfold am_region; simp only [Int.toNat_natCast]; simp only [sp_get_s hS_t1]; rw [sp_if_f (by omega), sp_if_t (by simp [hS_t1, hS_t3])])) dX5_region_15
        · have hT_t1 : M.toldMany t1 = (r_t1.1 : Int) ∧ ∀ k : Nat, k < r_t1.1 → M.told (200 * t1 + k) = r_t1.2 k := by have q := hR.2.1 t1 h_t1; rw [hS_t1] at q; exact q
          have hz_t1 := hT_t1.1
          have hm_t1 := (hW.2.1 t1 r_t1 h_t1 hS_t1).1
          have hfb_t1 := (hW.2.1 t1 r_t1 h_t1 hS_t1).2
          have hT_t3 : M.toldMany t3 = (r_t3.1 : Int) ∧ ∀ k : Nat, k < r_t3.1 → M.told (200 * t3 + k) = r_t3.2 k := by have q := hR.2.1 t3 h_t3; rw [hS_t3] at q; exact q
          have hz_t3 := hT_t3.1
          have hm_t3 := (hW.2.1 t3 r_t3 h_t3 hS_t3).1
          have hfb_t3 := (hW.2.1 t3 r_t3 h_t3 hS_t3).2
          refine lv_aload_n hx hb dX5_region_0 rfl (lv_at hl 0 rfl) ?_
          refine lv_iload_n hx hb dX5_region_1 rfl (lv_at hl 1 rfl) ?_
          refine lv_iload_n hx hb dX5_region_2 rfl (lv_at hl 3 rfl) ?_
          have hy_t1 : M.toldMany (Int.toNat (t1 : Int)) = (r_t1.1 : Int) := hz_t1
          have hy_t3 : M.toldMany (Int.toNat (t3 : Int)) = (r_t3.1 : Int) := hz_t3
          refine xv_i (i := 53) (As := [.int (xI (t1 : Int)), .int (xI (t3 : Int))]) (rest := []) ⟨hx, hb, hml, hown, hts⟩ hl.1 (c_X5_barsTwo l D cA n ad en hn hM (t1 : Int) (t3 : Int) 0 (by omega) (by omega) (fun _ => by show -1 ≤ M.toldMany t1 ∧ M.toldMany t1 ≤ 200; omega) (fun _ => by show -1 ≤ M.toldMany t3 ∧ M.toldMany t3 ≤ 200; omega) (by omega)) k_X5_barsTwo u_ml_RX5_128 hK hN hP (by omega) hM.1 rfl rfl rfl rfl (Nat.le_of_ble_eq_true rfl) ⟨Nat.le_of_ble_eq_true rfl, Nat.le_of_ble_eq_true rfl⟩ ⟨Nat.le_of_ble_eq_true rfl, Nat.le_of_ble_eq_true rfl⟩ dX5_region_3 ?_
          refine lv_istore (lv' := [(6, .int (xI 0)), (0, .ref (ad 53)), (1, .int (xI (t1 : Int))), (2, .int (xI z2)), (3, .int (xI (t3 : Int))), (4, .int (xI z4)), (5, .int (xI z5))]) hx hb dX5_region_6 hl (by decide) rfl (fun ls hl => ?_)
          refine lv_iload hx hb dX5_region_8 (lv_at hl 0 rfl) ?_
          refine x_if_ge (tgt := 16) hx hb dX5_region_10 (by decide) (by omega) (fun c_10 => ?_) (fun c_10 => absurd c_10 (by omega))
          refine lv_iload_n hx hb dX5_region_16 rfl (lv_at hl 3 rfl) ?_
          refine x_if_lt (tgt := 64) hx hb dX5_region_17 (by decide) (by omega) (fun c_17 => ?_) (fun c_17 => ?_)
          · refine x_iconst hx hb dX5_region_64 ?_
            refine x_tov (congrArg Value.int (show xI 0 = xb ((0 ≤ z2 ∧ 0 ≤ z4 ∧ z2 + z5 ≤ (r_t1.1 : Int) ∧ z4 + z5 ≤ (r_t3.1 : Int))) from xb_0 (by omega))) ?_
            refine lv_istore (lv' := [(7, .int (xb (0 ≤ z2 ∧ 0 ≤ z4 ∧ z2 + z5 ≤ (r_t1.1 : Int) ∧ z4 + z5 ≤ (r_t3.1 : Int)))), (6, .int (xI 0)), (0, .ref (ad 53)), (1, .int (xI (t1 : Int))), (2, .int (xI z2)), (3, .int (xI (t3 : Int))), (4, .int (xI z4)), (5, .int (xI z5))]) hx hb dX5_region_65 hl (by decide) rfl (fun ls hl => ?_)
            refine x_iconst hx hb dX5_region_67 ?_
            refine lv_istore (lv' := [(8, .int (xI 0)), (7, .int (xb (0 ≤ z2 ∧ 0 ≤ z4 ∧ z2 + z5 ≤ (r_t1.1 : Int) ∧ z4 + z5 ≤ (r_t3.1 : Int)))), (6, .int (xI 0)), (0, .ref (ad 53)), (1, .int (xI (t1 : Int))), (2, .int (xI z2)), (3, .int (xI (t3 : Int))), (4, .int (xI z4)), (5, .int (xI z5))]) hx hb dX5_region_68 hl (by decide) rfl (fun ls hl => ?_)
            have L70 : ∀ (nn : Nat) (K : Nat) (p9 : Prop), ((K : Int) ≤ z5 ∨ K = 0) → (p9 ↔ ((0 ≤ z2 ∧ 0 ≤ z4 ∧ z2 + z5 ≤ (r_t1.1 : Int) ∧ z4 + z5 ≤ (r_t3.1 : Int)) ∧ ∀ t : Nat, t < K → r_t1.2 (Int.toNat z2 + t) = r_t3.2 (Int.toNat z4 + t))) → ((z5 - K).toNat) < nn → ∀ ls : Array Slot, lv_has ls 9 [(0, .ref (ad 53)), (1, .int (xI (t1 : Int))), (2, .int (xI z2)), (3, .int (xI (t3 : Int))), (4, .int (xI z4)), (5, .int (xI z5)), (7, .int (xb p9)), (8, .int (xI (K : Int)))] → W p l e (xrm 3 67) s mm args below meth c s.heap [] 0 0 (MQ below (vp_Si (fun z => z = xI (am_region S (t1 : Int) z2 (t3 : Int) z4 z5))) args s 0 0 (fun _ => False)) (F0 mm 70 ls []) := by
              intro nn
              induction nn with
              | zero =>
                intro K p9  hk8 hp hmm  ls hl
                exact absurd hmm (Nat.not_lt_zero _)
              | succ nn ih =>
                intro K p9  hk8 hp hmm  ls hl
                refine lv_iload hx hb dX5_region_70 (lv_at hl 7 rfl) ?_
                refine lv_iload hx hb dX5_region_72 (lv_at hl 5 rfl) ?_
                refine x_icmp_ge (tgt := 129) hx hb dX5_region_74 (by decide) (by omega) (fun c_74 => ?_) (fun c_74 => ?_)
                · refine lv_iload hx hb dX5_region_129 (lv_at hl 6 rfl) ?_
                  refine x_ifb_eq (tgt := 138) hx hb dX5_region_131 (by decide)  (fun c_131 => ?_) (fun c_131 => ?_)
                  · refine x_iconst hx hb dX5_region_138 ?_
                    exact xr_i hx hb hrt hlocks ((by unfold am_region; simp only [Int.toNat_natCast]; simp only [sp_get_s hS_t1, sp_get_s hS_t3]; rw [sp_if_f (by omega), sp_if_f (by simp [hS_t1, hS_t3])]; rw [xd_f (fun q => c_131 (hp.mpr ⟨q.1, fun t ht => q.2 t (by omega)⟩))])) dX5_region_139
                  · refine x_iconst hx hb dX5_region_134 ?_
                    refine lv_goto (tgt := 139) hx hb dX5_region_135 (by decide) ?_
                    exact xr_i hx hb hrt hlocks ((by unfold am_region; simp only [Int.toNat_natCast]; simp only [sp_get_s hS_t1, sp_get_s hS_t3]; rw [sp_if_f (by omega), sp_if_f (by simp [hS_t1, hS_t3])]; rw [xd_t ⟨(hp.mp c_131).1, fun t ht => (hp.mp c_131).2 t (by omega)⟩])) dX5_region_139
                · refine lv_iload hx hb dX5_region_77 (lv_at hl 6 rfl) ?_
                  refine x_ifb_eq (tgt := 129) hx hb dX5_region_79 (by decide)  (fun c_79 => ?_) (fun c_79 => ?_)
                  · refine lv_iload hx hb dX5_region_129 (lv_at hl 6 rfl) ?_
                    refine x_ifb_eq (tgt := 138) hx hb dX5_region_131 (by decide)  (fun c_131 => ?_) (fun c_131 => ?_)
                    · refine x_iconst hx hb dX5_region_138 ?_
                      exact xr_i hx hb hrt hlocks ((by unfold am_region; simp only [Int.toNat_natCast]; simp only [sp_get_s hS_t1, sp_get_s hS_t3]; rw [sp_if_f (by omega), sp_if_f (by simp [hS_t1, hS_t3])]; rw [xd_f (fun q => c_79 (hp.mpr ⟨q.1, fun t ht => q.2 t (by omega)⟩))])) dX5_region_139
                    · refine x_iconst hx hb dX5_region_134 ?_
                      refine lv_goto (tgt := 139) hx hb dX5_region_135 (by decide) ?_
                      exact xr_i hx hb hrt hlocks ((by unfold am_region; simp only [Int.toNat_natCast]; simp only [sp_get_s hS_t1, sp_get_s hS_t3]; rw [sp_if_f (by omega), sp_if_f (by simp [hS_t1, hS_t3])]; rw [xd_t (absurd c_131 c_79)])) dX5_region_139
                  · have hpp := hp.mp c_79
                    have hfx := hfb_t1 (Int.toNat z2 + K) (by omega)
                    have hhx := hfb_t3 (Int.toNat z4 + K) (by omega)
                    refine lv_aload_n hx hb dX5_region_82 rfl (lv_at hl 0 rfl) ?_
                    refine x_get (T := TX5) (N := 17) hx hb hts uX5 hown hK hP (i := 53) (by omega) hM.1 rfl 2 (by decide) u_fl_RX5_16 rfl dX5_region_83 ?_
                    refine x_sipush hx hb dX5_region_86 (by decide +kernel) ?_
                    refine lv_iload_n hx hb dX5_region_89 rfl (lv_at hl 1 rfl) ?_
                    refine x_imul hx hb dX5_region_90 ?_
                    refine lv_iload_n hx hb dX5_region_91 rfl (lv_at hl 2 rfl) ?_
                    refine x_iadd hx hb dX5_region_92 ?_
                    refine lv_iload hx hb dX5_region_93 (lv_at hl 7 rfl) ?_
                    refine x_iadd hx hb dX5_region_95 ?_
                    refine x_ild hx hb hK hP (i := 56) (by omega) hM.2.2.2.1 (x := M.told (Int.toNat (((200 * (t1 : Int)) + z2) + (K : Int)))) (by omega) (rfl) dX5_region_96 ?_
                    refine x_to (r_t1.2 (Int.toNat z2 + K)) (by rw [show Int.toNat (200 * (t1 : Int) + z2 + (K : Int)) = 200 * t1 + (Int.toNat z2 + K) by omega]; exact hT_t1.2 _ (by omega)) ?_
                    refine lv_aload_n hx hb dX5_region_97 rfl (lv_at hl 0 rfl) ?_
                    refine x_get (T := TX5) (N := 17) hx hb hts uX5 hown hK hP (i := 53) (by omega) hM.1 rfl 2 (by decide) u_fl_RX5_16 rfl dX5_region_98 ?_
                    refine x_sipush hx hb dX5_region_101 (by decide +kernel) ?_
                    refine lv_iload_n hx hb dX5_region_104 rfl (lv_at hl 3 rfl) ?_
                    refine x_imul hx hb dX5_region_105 ?_
                    refine lv_iload hx hb dX5_region_106 (lv_at hl 4 rfl) ?_
                    refine x_iadd hx hb dX5_region_108 ?_
                    refine lv_iload hx hb dX5_region_109 (lv_at hl 7 rfl) ?_
                    refine x_iadd hx hb dX5_region_111 ?_
                    refine x_ild hx hb hK hP (i := 56) (by omega) hM.2.2.2.1 (x := M.told (Int.toNat (((200 * (t3 : Int)) + z4) + (K : Int)))) (by omega) (rfl) dX5_region_112 ?_
                    refine x_to (r_t3.2 (Int.toNat z4 + K)) (by rw [show Int.toNat (200 * (t3 : Int) + z4 + (K : Int)) = 200 * t3 + (Int.toNat z4 + K) by omega]; exact hT_t3.2 _ (by omega)) ?_
                    refine x_icmp_ne (tgt := 120) hx hb dX5_region_113 (by decide) (by omega) (fun c_113 => ?_) (fun c_113 => ?_)
                    · refine x_iconst hx hb dX5_region_120 ?_
                      refine x_tov (congrArg Value.int (show xI 0 = xb ((0 ≤ z2 ∧ 0 ≤ z4 ∧ z2 + z5 ≤ (r_t1.1 : Int) ∧ z4 + z5 ≤ (r_t3.1 : Int)) ∧ ∀ t : Nat, t < K + 1 → r_t1.2 (Int.toNat z2 + t) = r_t3.2 (Int.toNat z4 + t)) from xb_0 (fun w => c_113 (w.2 K (by omega))))) ?_
                      refine lv_istore (lv' := [(7, .int (xb ((0 ≤ z2 ∧ 0 ≤ z4 ∧ z2 + z5 ≤ (r_t1.1 : Int) ∧ z4 + z5 ≤ (r_t3.1 : Int)) ∧ ∀ t : Nat, t < K + 1 → r_t1.2 (Int.toNat z2 + t) = r_t3.2 (Int.toNat z4 + t)))), (0, .ref (ad 53)), (1, .int (xI (t1 : Int))), (2, .int (xI z2)), (3, .int (xI (t3 : Int))), (4, .int (xI z4)), (5, .int (xI z5)), (8, .int (xI (K : Int)))]) hx hb dX5_region_121 hl (by decide) rfl (fun ls hl => ?_)
                      refine x_iinc (lv' := [(8, .int (xI ((K : Int) + 1))), (7, .int (xb ((0 ≤ z2 ∧ 0 ≤ z4 ∧ z2 + z5 ≤ (r_t1.1 : Int) ∧ z4 + z5 ≤ (r_t3.1 : Int)) ∧ ∀ t : Nat, t < K + 1 → r_t1.2 (Int.toNat z2 + t) = r_t3.2 (Int.toNat z4 + t)))), (0, .ref (ad 53)), (1, .int (xI (t1 : Int))), (2, .int (xI z2)), (3, .int (xI (t3 : Int))), (4, .int (xI z4)), (5, .int (xI z5))]) (k := 7) hx hb dX5_region_123 hl rfl (by decide) rfl (fun ls hl => ?_)
                      refine lv_goto (tgt := 70) hx hb dX5_region_126 (by decide) ?_
                      exact ih (K + 1) _ (by omega) Iff.rfl (by omega)  ls (lv_sub hl [2, 3, 4, 5, 6, 7, 1, 0] rfl)
                    · refine x_iconst hx hb dX5_region_116 ?_
                      refine lv_goto (tgt := 121) hx hb dX5_region_117 (by decide) ?_
                      refine x_tov (congrArg Value.int (show xI 1 = xb ((0 ≤ z2 ∧ 0 ≤ z4 ∧ z2 + z5 ≤ (r_t1.1 : Int) ∧ z4 + z5 ≤ (r_t3.1 : Int)) ∧ ∀ t : Nat, t < K + 1 → r_t1.2 (Int.toNat z2 + t) = r_t3.2 (Int.toNat z4 + t)) from xb_1 (⟨hpp.1, fun t ht => by
      by_cases q : t = K
      · rw [q]; exact c_113
      · exact hpp.2 t (by omega)⟩))) ?_
                      refine lv_istore (lv' := [(7, .int (xb ((0 ≤ z2 ∧ 0 ≤ z4 ∧ z2 + z5 ≤ (r_t1.1 : Int) ∧ z4 + z5 ≤ (r_t3.1 : Int)) ∧ ∀ t : Nat, t < K + 1 → r_t1.2 (Int.toNat z2 + t) = r_t3.2 (Int.toNat z4 + t)))), (0, .ref (ad 53)), (1, .int (xI (t1 : Int))), (2, .int (xI z2)), (3, .int (xI (t3 : Int))), (4, .int (xI z4)), (5, .int (xI z5)), (8, .int (xI (K : Int)))]) hx hb dX5_region_121 hl (by decide) rfl (fun ls hl => ?_)
                      refine x_iinc (lv' := [(8, .int (xI ((K : Int) + 1))), (7, .int (xb ((0 ≤ z2 ∧ 0 ≤ z4 ∧ z2 + z5 ≤ (r_t1.1 : Int) ∧ z4 + z5 ≤ (r_t3.1 : Int)) ∧ ∀ t : Nat, t < K + 1 → r_t1.2 (Int.toNat z2 + t) = r_t3.2 (Int.toNat z4 + t)))), (0, .ref (ad 53)), (1, .int (xI (t1 : Int))), (2, .int (xI z2)), (3, .int (xI (t3 : Int))), (4, .int (xI z4)), (5, .int (xI z5))]) (k := 7) hx hb dX5_region_123 hl rfl (by decide) rfl (fun ls hl => ?_)
                      refine lv_goto (tgt := 70) hx hb dX5_region_126 (by decide) ?_
                      exact ih (K + 1) _ (by omega) Iff.rfl (by omega)  ls (lv_sub hl [2, 3, 4, 5, 6, 7, 1, 0] rfl)
            exact L70 _ 0 _ (by omega) (⟨fun q => ⟨q, fun t ht => absurd ht (Nat.not_lt_zero _)⟩, fun q => q.1⟩) (Nat.lt_succ_self _)  ls (lv_sub hl [3, 4, 5, 6, 7, 8, 1, 0] rfl)
          · refine lv_iload hx hb dX5_region_20 (lv_at hl 5 rfl) ?_
            refine x_if_lt (tgt := 64) hx hb dX5_region_22 (by decide) (by omega) (fun c_22 => ?_) (fun c_22 => ?_)
            · refine x_iconst hx hb dX5_region_64 ?_
              refine x_tov (congrArg Value.int (show xI 0 = xb ((0 ≤ z2 ∧ 0 ≤ z4 ∧ z2 + z5 ≤ (r_t1.1 : Int) ∧ z4 + z5 ≤ (r_t3.1 : Int))) from xb_0 (by omega))) ?_
              refine lv_istore (lv' := [(7, .int (xb (0 ≤ z2 ∧ 0 ≤ z4 ∧ z2 + z5 ≤ (r_t1.1 : Int) ∧ z4 + z5 ≤ (r_t3.1 : Int)))), (6, .int (xI 0)), (0, .ref (ad 53)), (1, .int (xI (t1 : Int))), (2, .int (xI z2)), (3, .int (xI (t3 : Int))), (4, .int (xI z4)), (5, .int (xI z5))]) hx hb dX5_region_65 hl (by decide) rfl (fun ls hl => ?_)
              refine x_iconst hx hb dX5_region_67 ?_
              refine lv_istore (lv' := [(8, .int (xI 0)), (7, .int (xb (0 ≤ z2 ∧ 0 ≤ z4 ∧ z2 + z5 ≤ (r_t1.1 : Int) ∧ z4 + z5 ≤ (r_t3.1 : Int)))), (6, .int (xI 0)), (0, .ref (ad 53)), (1, .int (xI (t1 : Int))), (2, .int (xI z2)), (3, .int (xI (t3 : Int))), (4, .int (xI z4)), (5, .int (xI z5))]) hx hb dX5_region_68 hl (by decide) rfl (fun ls hl => ?_)
              have L70 : ∀ (nn : Nat) (K : Nat) (p9 : Prop), ((K : Int) ≤ z5 ∨ K = 0) → (p9 ↔ ((0 ≤ z2 ∧ 0 ≤ z4 ∧ z2 + z5 ≤ (r_t1.1 : Int) ∧ z4 + z5 ≤ (r_t3.1 : Int)) ∧ ∀ t : Nat, t < K → r_t1.2 (Int.toNat z2 + t) = r_t3.2 (Int.toNat z4 + t))) → ((z5 - K).toNat) < nn → ∀ ls : Array Slot, lv_has ls 9 [(0, .ref (ad 53)), (1, .int (xI (t1 : Int))), (2, .int (xI z2)), (3, .int (xI (t3 : Int))), (4, .int (xI z4)), (5, .int (xI z5)), (7, .int (xb p9)), (8, .int (xI (K : Int)))] → W p l e (xrm 3 67) s mm args below meth c s.heap [] 0 0 (MQ below (vp_Si (fun z => z = xI (am_region S (t1 : Int) z2 (t3 : Int) z4 z5))) args s 0 0 (fun _ => False)) (F0 mm 70 ls []) := by
                intro nn
                induction nn with
                | zero =>
                  intro K p9  hk8 hp hmm  ls hl
                  exact absurd hmm (Nat.not_lt_zero _)
                | succ nn ih =>
                  intro K p9  hk8 hp hmm  ls hl
                  refine lv_iload hx hb dX5_region_70 (lv_at hl 7 rfl) ?_
                  refine lv_iload hx hb dX5_region_72 (lv_at hl 5 rfl) ?_
                  refine x_icmp_ge (tgt := 129) hx hb dX5_region_74 (by decide) (by omega) (fun c_74 => ?_) (fun c_74 => ?_)
                  · refine lv_iload hx hb dX5_region_129 (lv_at hl 6 rfl) ?_
                    refine x_ifb_eq (tgt := 138) hx hb dX5_region_131 (by decide)  (fun c_131 => ?_) (fun c_131 => ?_)
                    · refine x_iconst hx hb dX5_region_138 ?_
                      exact xr_i hx hb hrt hlocks ((by unfold am_region; simp only [Int.toNat_natCast]; simp only [sp_get_s hS_t1, sp_get_s hS_t3]; rw [sp_if_f (by omega), sp_if_f (by simp [hS_t1, hS_t3])]; rw [xd_f (fun q => c_131 (hp.mpr ⟨q.1, fun t ht => q.2 t (by omega)⟩))])) dX5_region_139
                    · refine x_iconst hx hb dX5_region_134 ?_
                      refine lv_goto (tgt := 139) hx hb dX5_region_135 (by decide) ?_
                      exact xr_i hx hb hrt hlocks ((by unfold am_region; simp only [Int.toNat_natCast]; simp only [sp_get_s hS_t1, sp_get_s hS_t3]; rw [sp_if_f (by omega), sp_if_f (by simp [hS_t1, hS_t3])]; rw [xd_t ⟨(hp.mp c_131).1, fun t ht => (hp.mp c_131).2 t (by omega)⟩])) dX5_region_139
                  · refine lv_iload hx hb dX5_region_77 (lv_at hl 6 rfl) ?_
                    refine x_ifb_eq (tgt := 129) hx hb dX5_region_79 (by decide)  (fun c_79 => ?_) (fun c_79 => ?_)
                    · refine lv_iload hx hb dX5_region_129 (lv_at hl 6 rfl) ?_
                      refine x_ifb_eq (tgt := 138) hx hb dX5_region_131 (by decide)  (fun c_131 => ?_) (fun c_131 => ?_)
                      · refine x_iconst hx hb dX5_region_138 ?_
                        exact xr_i hx hb hrt hlocks ((by unfold am_region; simp only [Int.toNat_natCast]; simp only [sp_get_s hS_t1, sp_get_s hS_t3]; rw [sp_if_f (by omega), sp_if_f (by simp [hS_t1, hS_t3])]; rw [xd_f (fun q => c_79 (hp.mpr ⟨q.1, fun t ht => q.2 t (by omega)⟩))])) dX5_region_139
                      · refine x_iconst hx hb dX5_region_134 ?_
                        refine lv_goto (tgt := 139) hx hb dX5_region_135 (by decide) ?_
                        exact xr_i hx hb hrt hlocks ((by unfold am_region; simp only [Int.toNat_natCast]; simp only [sp_get_s hS_t1, sp_get_s hS_t3]; rw [sp_if_f (by omega), sp_if_f (by simp [hS_t1, hS_t3])]; rw [xd_t (absurd c_131 c_79)])) dX5_region_139
                    · have hpp := hp.mp c_79
                      have hfx := hfb_t1 (Int.toNat z2 + K) (by omega)
                      have hhx := hfb_t3 (Int.toNat z4 + K) (by omega)
                      refine lv_aload_n hx hb dX5_region_82 rfl (lv_at hl 0 rfl) ?_
                      refine x_get (T := TX5) (N := 17) hx hb hts uX5 hown hK hP (i := 53) (by omega) hM.1 rfl 2 (by decide) u_fl_RX5_16 rfl dX5_region_83 ?_
                      refine x_sipush hx hb dX5_region_86 (by decide +kernel) ?_
                      refine lv_iload_n hx hb dX5_region_89 rfl (lv_at hl 1 rfl) ?_
                      refine x_imul hx hb dX5_region_90 ?_
                      refine lv_iload_n hx hb dX5_region_91 rfl (lv_at hl 2 rfl) ?_
                      refine x_iadd hx hb dX5_region_92 ?_
                      refine lv_iload hx hb dX5_region_93 (lv_at hl 7 rfl) ?_
                      refine x_iadd hx hb dX5_region_95 ?_
                      refine x_ild hx hb hK hP (i := 56) (by omega) hM.2.2.2.1 (x := M.told (Int.toNat (((200 * (t1 : Int)) + z2) + (K : Int)))) (by omega) (rfl) dX5_region_96 ?_
                      refine x_to (r_t1.2 (Int.toNat z2 + K)) (by rw [show Int.toNat (200 * (t1 : Int) + z2 + (K : Int)) = 200 * t1 + (Int.toNat z2 + K) by omega]; exact hT_t1.2 _ (by omega)) ?_
                      refine lv_aload_n hx hb dX5_region_97 rfl (lv_at hl 0 rfl) ?_
                      refine x_get (T := TX5) (N := 17) hx hb hts uX5 hown hK hP (i := 53) (by omega) hM.1 rfl 2 (by decide) u_fl_RX5_16 rfl dX5_region_98 ?_
                      refine x_sipush hx hb dX5_region_101 (by decide +kernel) ?_
                      refine lv_iload_n hx hb dX5_region_104 rfl (lv_at hl 3 rfl) ?_
                      refine x_imul hx hb dX5_region_105 ?_
                      refine lv_iload hx hb dX5_region_106 (lv_at hl 4 rfl) ?_
                      refine x_iadd hx hb dX5_region_108 ?_
                      refine lv_iload hx hb dX5_region_109 (lv_at hl 7 rfl) ?_
                      refine x_iadd hx hb dX5_region_111 ?_
                      refine x_ild hx hb hK hP (i := 56) (by omega) hM.2.2.2.1 (x := M.told (Int.toNat (((200 * (t3 : Int)) + z4) + (K : Int)))) (by omega) (rfl) dX5_region_112 ?_
                      refine x_to (r_t3.2 (Int.toNat z4 + K)) (by rw [show Int.toNat (200 * (t3 : Int) + z4 + (K : Int)) = 200 * t3 + (Int.toNat z4 + K) by omega]; exact hT_t3.2 _ (by omega)) ?_
                      refine x_icmp_ne (tgt := 120) hx hb dX5_region_113 (by decide) (by omega) (fun c_113 => ?_) (fun c_113 => ?_)
                      · refine x_iconst hx hb dX5_region_120 ?_
                        refine x_tov (congrArg Value.int (show xI 0 = xb ((0 ≤ z2 ∧ 0 ≤ z4 ∧ z2 + z5 ≤ (r_t1.1 : Int) ∧ z4 + z5 ≤ (r_t3.1 : Int)) ∧ ∀ t : Nat, t < K + 1 → r_t1.2 (Int.toNat z2 + t) = r_t3.2 (Int.toNat z4 + t)) from xb_0 (fun w => c_113 (w.2 K (by omega))))) ?_
                        refine lv_istore (lv' := [(7, .int (xb ((0 ≤ z2 ∧ 0 ≤ z4 ∧ z2 + z5 ≤ (r_t1.1 : Int) ∧ z4 + z5 ≤ (r_t3.1 : Int)) ∧ ∀ t : Nat, t < K + 1 → r_t1.2 (Int.toNat z2 + t) = r_t3.2 (Int.toNat z4 + t)))), (0, .ref (ad 53)), (1, .int (xI (t1 : Int))), (2, .int (xI z2)), (3, .int (xI (t3 : Int))), (4, .int (xI z4)), (5, .int (xI z5)), (8, .int (xI (K : Int)))]) hx hb dX5_region_121 hl (by decide) rfl (fun ls hl => ?_)
                        refine x_iinc (lv' := [(8, .int (xI ((K : Int) + 1))), (7, .int (xb ((0 ≤ z2 ∧ 0 ≤ z4 ∧ z2 + z5 ≤ (r_t1.1 : Int) ∧ z4 + z5 ≤ (r_t3.1 : Int)) ∧ ∀ t : Nat, t < K + 1 → r_t1.2 (Int.toNat z2 + t) = r_t3.2 (Int.toNat z4 + t)))), (0, .ref (ad 53)), (1, .int (xI (t1 : Int))), (2, .int (xI z2)), (3, .int (xI (t3 : Int))), (4, .int (xI z4)), (5, .int (xI z5))]) (k := 7) hx hb dX5_region_123 hl rfl (by decide) rfl (fun ls hl => ?_)
                        refine lv_goto (tgt := 70) hx hb dX5_region_126 (by decide) ?_
                        exact ih (K + 1) _ (by omega) Iff.rfl (by omega)  ls (lv_sub hl [2, 3, 4, 5, 6, 7, 1, 0] rfl)
                      · refine x_iconst hx hb dX5_region_116 ?_
                        refine lv_goto (tgt := 121) hx hb dX5_region_117 (by decide) ?_
                        refine x_tov (congrArg Value.int (show xI 1 = xb ((0 ≤ z2 ∧ 0 ≤ z4 ∧ z2 + z5 ≤ (r_t1.1 : Int) ∧ z4 + z5 ≤ (r_t3.1 : Int)) ∧ ∀ t : Nat, t < K + 1 → r_t1.2 (Int.toNat z2 + t) = r_t3.2 (Int.toNat z4 + t)) from xb_1 (⟨hpp.1, fun t ht => by
      by_cases q : t = K
      · rw [q]; exact c_113
      · exact hpp.2 t (by omega)⟩))) ?_
                        refine lv_istore (lv' := [(7, .int (xb ((0 ≤ z2 ∧ 0 ≤ z4 ∧ z2 + z5 ≤ (r_t1.1 : Int) ∧ z4 + z5 ≤ (r_t3.1 : Int)) ∧ ∀ t : Nat, t < K + 1 → r_t1.2 (Int.toNat z2 + t) = r_t3.2 (Int.toNat z4 + t)))), (0, .ref (ad 53)), (1, .int (xI (t1 : Int))), (2, .int (xI z2)), (3, .int (xI (t3 : Int))), (4, .int (xI z4)), (5, .int (xI z5)), (8, .int (xI (K : Int)))]) hx hb dX5_region_121 hl (by decide) rfl (fun ls hl => ?_)
                        refine x_iinc (lv' := [(8, .int (xI ((K : Int) + 1))), (7, .int (xb ((0 ≤ z2 ∧ 0 ≤ z4 ∧ z2 + z5 ≤ (r_t1.1 : Int) ∧ z4 + z5 ≤ (r_t3.1 : Int)) ∧ ∀ t : Nat, t < K + 1 → r_t1.2 (Int.toNat z2 + t) = r_t3.2 (Int.toNat z4 + t)))), (0, .ref (ad 53)), (1, .int (xI (t1 : Int))), (2, .int (xI z2)), (3, .int (xI (t3 : Int))), (4, .int (xI z4)), (5, .int (xI z5))]) (k := 7) hx hb dX5_region_123 hl rfl (by decide) rfl (fun ls hl => ?_)
                        refine lv_goto (tgt := 70) hx hb dX5_region_126 (by decide) ?_
                        exact ih (K + 1) _ (by omega) Iff.rfl (by omega)  ls (lv_sub hl [2, 3, 4, 5, 6, 7, 1, 0] rfl)
              exact L70 _ 0 _ (by omega) (⟨fun q => ⟨q, fun t ht => absurd ht (Nat.not_lt_zero _)⟩, fun q => q.1⟩) (Nat.lt_succ_self _)  ls (lv_sub hl [3, 4, 5, 6, 7, 8, 1, 0] rfl)
            · refine lv_iload_n hx hb dX5_region_25 rfl (lv_at hl 3 rfl) ?_
              refine x_i2l hx hb dX5_region_26 (by omega) ?_
              refine lv_iload hx hb dX5_region_27 (lv_at hl 6 rfl) ?_
              refine x_i2l hx hb dX5_region_29 (by omega) ?_
              refine x_ladd hx hb dX5_region_30 ?_
              refine lv_aload_n hx hb dX5_region_31 rfl (lv_at hl 1 rfl) ?_
              refine x_get (T := TX5) (N := 17) hx hb hts uX5 hown hK hP (i := 53) (by omega) hM.1 rfl 3 (by decide) u_fl_RX5_19 rfl dX5_region_32 ?_
              refine lv_iload_n hx hb dX5_region_35 rfl (lv_at hl 2 rfl) ?_
              refine x_ild hx hb hK hP (i := 57) (by omega) hM.2.2.2.2.1 (x := (r_t1.1 : Int)) (by omega) (congrArg xI hz_t1) dX5_region_36 ?_
              refine x_i2l hx hb dX5_region_37 (by omega) ?_
              refine x_lcmp hx hb dX5_region_38 (by omega) ?_
              refine x_if_gt (tgt := 64) hx hb dX5_region_39 (by decide) (xcmp_r _ _) (fun c_39 => ?_) (fun c_39 => ?_)
              · have c_39 := xcmp_gt.mp c_39
                refine x_iconst hx hb dX5_region_64 ?_
                refine x_tov (congrArg Value.int (show xI 0 = xb ((0 ≤ z2 ∧ 0 ≤ z4 ∧ z2 + z5 ≤ (r_t1.1 : Int) ∧ z4 + z5 ≤ (r_t3.1 : Int))) from xb_0 (by omega))) ?_
                refine lv_istore (lv' := [(7, .int (xb (0 ≤ z2 ∧ 0 ≤ z4 ∧ z2 + z5 ≤ (r_t1.1 : Int) ∧ z4 + z5 ≤ (r_t3.1 : Int)))), (6, .int (xI 0)), (0, .ref (ad 53)), (1, .int (xI (t1 : Int))), (2, .int (xI z2)), (3, .int (xI (t3 : Int))), (4, .int (xI z4)), (5, .int (xI z5))]) hx hb dX5_region_65 hl (by decide) rfl (fun ls hl => ?_)
                refine x_iconst hx hb dX5_region_67 ?_
                refine lv_istore (lv' := [(8, .int (xI 0)), (7, .int (xb (0 ≤ z2 ∧ 0 ≤ z4 ∧ z2 + z5 ≤ (r_t1.1 : Int) ∧ z4 + z5 ≤ (r_t3.1 : Int)))), (6, .int (xI 0)), (0, .ref (ad 53)), (1, .int (xI (t1 : Int))), (2, .int (xI z2)), (3, .int (xI (t3 : Int))), (4, .int (xI z4)), (5, .int (xI z5))]) hx hb dX5_region_68 hl (by decide) rfl (fun ls hl => ?_)
                have L70 : ∀ (nn : Nat) (K : Nat) (p9 : Prop), ((K : Int) ≤ z5 ∨ K = 0) → (p9 ↔ ((0 ≤ z2 ∧ 0 ≤ z4 ∧ z2 + z5 ≤ (r_t1.1 : Int) ∧ z4 + z5 ≤ (r_t3.1 : Int)) ∧ ∀ t : Nat, t < K → r_t1.2 (Int.toNat z2 + t) = r_t3.2 (Int.toNat z4 + t))) → ((z5 - K).toNat) < nn → ∀ ls : Array Slot, lv_has ls 9 [(0, .ref (ad 53)), (1, .int (xI (t1 : Int))), (2, .int (xI z2)), (3, .int (xI (t3 : Int))), (4, .int (xI z4)), (5, .int (xI z5)), (7, .int (xb p9)), (8, .int (xI (K : Int)))] → W p l e (xrm 3 67) s mm args below meth c s.heap [] 0 0 (MQ below (vp_Si (fun z => z = xI (am_region S (t1 : Int) z2 (t3 : Int) z4 z5))) args s 0 0 (fun _ => False)) (F0 mm 70 ls []) := by
                  intro nn
                  induction nn with
                  | zero =>
                    intro K p9  hk8 hp hmm  ls hl
                    exact absurd hmm (Nat.not_lt_zero _)
                  | succ nn ih =>
                    intro K p9  hk8 hp hmm  ls hl
                    refine lv_iload hx hb dX5_region_70 (lv_at hl 7 rfl) ?_
                    refine lv_iload hx hb dX5_region_72 (lv_at hl 5 rfl) ?_
                    refine x_icmp_ge (tgt := 129) hx hb dX5_region_74 (by decide) (by omega) (fun c_74 => ?_) (fun c_74 => ?_)
                    · refine lv_iload hx hb dX5_region_129 (lv_at hl 6 rfl) ?_
                      refine x_ifb_eq (tgt := 138) hx hb dX5_region_131 (by decide)  (fun c_131 => ?_) (fun c_131 => ?_)
                      · refine x_iconst hx hb dX5_region_138 ?_
                        exact xr_i hx hb hrt hlocks ((by unfold am_region; simp only [Int.toNat_natCast]; simp only [sp_get_s hS_t1, sp_get_s hS_t3]; rw [sp_if_f (by omega), sp_if_f (by simp [hS_t1, hS_t3])]; rw [xd_f (fun q => c_131 (hp.mpr ⟨q.1, fun t ht => q.2 t (by omega)⟩))])) dX5_region_139
                      · refine x_iconst hx hb dX5_region_134 ?_
                        refine lv_goto (tgt := 139) hx hb dX5_region_135 (by decide) ?_
                        exact xr_i hx hb hrt hlocks ((by unfold am_region; simp only [Int.toNat_natCast]; simp only [sp_get_s hS_t1, sp_get_s hS_t3]; rw [sp_if_f (by omega), sp_if_f (by simp [hS_t1, hS_t3])]; rw [xd_t ⟨(hp.mp c_131).1, fun t ht => (hp.mp c_131).2 t (by omega)⟩])) dX5_region_139
                    · refine lv_iload hx hb dX5_region_77 (lv_at hl 6 rfl) ?_
                      refine x_ifb_eq (tgt := 129) hx hb dX5_region_79 (by decide)  (fun c_79 => ?_) (fun c_79 => ?_)
                      · refine lv_iload hx hb dX5_region_129 (lv_at hl 6 rfl) ?_
                        refine x_ifb_eq (tgt := 138) hx hb dX5_region_131 (by decide)  (fun c_131 => ?_) (fun c_131 => ?_)
                        · refine x_iconst hx hb dX5_region_138 ?_
                          exact xr_i hx hb hrt hlocks ((by unfold am_region; simp only [Int.toNat_natCast]; simp only [sp_get_s hS_t1, sp_get_s hS_t3]; rw [sp_if_f (by omega), sp_if_f (by simp [hS_t1, hS_t3])]; rw [xd_f (fun q => c_79 (hp.mpr ⟨q.1, fun t ht => q.2 t (by omega)⟩))])) dX5_region_139
                        · refine x_iconst hx hb dX5_region_134 ?_
                          refine lv_goto (tgt := 139) hx hb dX5_region_135 (by decide) ?_
                          exact xr_i hx hb hrt hlocks ((by unfold am_region; simp only [Int.toNat_natCast]; simp only [sp_get_s hS_t1, sp_get_s hS_t3]; rw [sp_if_f (by omega), sp_if_f (by simp [hS_t1, hS_t3])]; rw [xd_t (absurd c_131 c_79)])) dX5_region_139
                      · have hpp := hp.mp c_79
                        have hfx := hfb_t1 (Int.toNat z2 + K) (by omega)
                        have hhx := hfb_t3 (Int.toNat z4 + K) (by omega)
                        refine lv_aload_n hx hb dX5_region_82 rfl (lv_at hl 0 rfl) ?_
                        refine x_get (T := TX5) (N := 17) hx hb hts uX5 hown hK hP (i := 53) (by omega) hM.1 rfl 2 (by decide) u_fl_RX5_16 rfl dX5_region_83 ?_
                        refine x_sipush hx hb dX5_region_86 (by decide +kernel) ?_
                        refine lv_iload_n hx hb dX5_region_89 rfl (lv_at hl 1 rfl) ?_
                        refine x_imul hx hb dX5_region_90 ?_
                        refine lv_iload_n hx hb dX5_region_91 rfl (lv_at hl 2 rfl) ?_
                        refine x_iadd hx hb dX5_region_92 ?_
                        refine lv_iload hx hb dX5_region_93 (lv_at hl 7 rfl) ?_
                        refine x_iadd hx hb dX5_region_95 ?_
                        refine x_ild hx hb hK hP (i := 56) (by omega) hM.2.2.2.1 (x := M.told (Int.toNat (((200 * (t1 : Int)) + z2) + (K : Int)))) (by omega) (rfl) dX5_region_96 ?_
                        refine x_to (r_t1.2 (Int.toNat z2 + K)) (by rw [show Int.toNat (200 * (t1 : Int) + z2 + (K : Int)) = 200 * t1 + (Int.toNat z2 + K) by omega]; exact hT_t1.2 _ (by omega)) ?_
                        refine lv_aload_n hx hb dX5_region_97 rfl (lv_at hl 0 rfl) ?_
                        refine x_get (T := TX5) (N := 17) hx hb hts uX5 hown hK hP (i := 53) (by omega) hM.1 rfl 2 (by decide) u_fl_RX5_16 rfl dX5_region_98 ?_
                        refine x_sipush hx hb dX5_region_101 (by decide +kernel) ?_
                        refine lv_iload_n hx hb dX5_region_104 rfl (lv_at hl 3 rfl) ?_
                        refine x_imul hx hb dX5_region_105 ?_
                        refine lv_iload hx hb dX5_region_106 (lv_at hl 4 rfl) ?_
                        refine x_iadd hx hb dX5_region_108 ?_
                        refine lv_iload hx hb dX5_region_109 (lv_at hl 7 rfl) ?_
                        refine x_iadd hx hb dX5_region_111 ?_
                        refine x_ild hx hb hK hP (i := 56) (by omega) hM.2.2.2.1 (x := M.told (Int.toNat (((200 * (t3 : Int)) + z4) + (K : Int)))) (by omega) (rfl) dX5_region_112 ?_
                        refine x_to (r_t3.2 (Int.toNat z4 + K)) (by rw [show Int.toNat (200 * (t3 : Int) + z4 + (K : Int)) = 200 * t3 + (Int.toNat z4 + K) by omega]; exact hT_t3.2 _ (by omega)) ?_
                        refine x_icmp_ne (tgt := 120) hx hb dX5_region_113 (by decide) (by omega) (fun c_113 => ?_) (fun c_113 => ?_)
                        · refine x_iconst hx hb dX5_region_120 ?_
                          refine x_tov (congrArg Value.int (show xI 0 = xb ((0 ≤ z2 ∧ 0 ≤ z4 ∧ z2 + z5 ≤ (r_t1.1 : Int) ∧ z4 + z5 ≤ (r_t3.1 : Int)) ∧ ∀ t : Nat, t < K + 1 → r_t1.2 (Int.toNat z2 + t) = r_t3.2 (Int.toNat z4 + t)) from xb_0 (fun w => c_113 (w.2 K (by omega))))) ?_
                          refine lv_istore (lv' := [(7, .int (xb ((0 ≤ z2 ∧ 0 ≤ z4 ∧ z2 + z5 ≤ (r_t1.1 : Int) ∧ z4 + z5 ≤ (r_t3.1 : Int)) ∧ ∀ t : Nat, t < K + 1 → r_t1.2 (Int.toNat z2 + t) = r_t3.2 (Int.toNat z4 + t)))), (0, .ref (ad 53)), (1, .int (xI (t1 : Int))), (2, .int (xI z2)), (3, .int (xI (t3 : Int))), (4, .int (xI z4)), (5, .int (xI z5)), (8, .int (xI (K : Int)))]) hx hb dX5_region_121 hl (by decide) rfl (fun ls hl => ?_)
                          refine x_iinc (lv' := [(8, .int (xI ((K : Int) + 1))), (7, .int (xb ((0 ≤ z2 ∧ 0 ≤ z4 ∧ z2 + z5 ≤ (r_t1.1 : Int) ∧ z4 + z5 ≤ (r_t3.1 : Int)) ∧ ∀ t : Nat, t < K + 1 → r_t1.2 (Int.toNat z2 + t) = r_t3.2 (Int.toNat z4 + t)))), (0, .ref (ad 53)), (1, .int (xI (t1 : Int))), (2, .int (xI z2)), (3, .int (xI (t3 : Int))), (4, .int (xI z4)), (5, .int (xI z5))]) (k := 7) hx hb dX5_region_123 hl rfl (by decide) rfl (fun ls hl => ?_)
                          refine lv_goto (tgt := 70) hx hb dX5_region_126 (by decide) ?_
                          exact ih (K + 1) _ (by omega) Iff.rfl (by omega)  ls (lv_sub hl [2, 3, 4, 5, 6, 7, 1, 0] rfl)
                        · refine x_iconst hx hb dX5_region_116 ?_
                          refine lv_goto (tgt := 121) hx hb dX5_region_117 (by decide) ?_
                          refine x_tov (congrArg Value.int (show xI 1 = xb ((0 ≤ z2 ∧ 0 ≤ z4 ∧ z2 + z5 ≤ (r_t1.1 : Int) ∧ z4 + z5 ≤ (r_t3.1 : Int)) ∧ ∀ t : Nat, t < K + 1 → r_t1.2 (Int.toNat z2 + t) = r_t3.2 (Int.toNat z4 + t)) from xb_1 (⟨hpp.1, fun t ht => by
      by_cases q : t = K
      · rw [q]; exact c_113
      · exact hpp.2 t (by omega)⟩))) ?_
                          refine lv_istore (lv' := [(7, .int (xb ((0 ≤ z2 ∧ 0 ≤ z4 ∧ z2 + z5 ≤ (r_t1.1 : Int) ∧ z4 + z5 ≤ (r_t3.1 : Int)) ∧ ∀ t : Nat, t < K + 1 → r_t1.2 (Int.toNat z2 + t) = r_t3.2 (Int.toNat z4 + t)))), (0, .ref (ad 53)), (1, .int (xI (t1 : Int))), (2, .int (xI z2)), (3, .int (xI (t3 : Int))), (4, .int (xI z4)), (5, .int (xI z5)), (8, .int (xI (K : Int)))]) hx hb dX5_region_121 hl (by decide) rfl (fun ls hl => ?_)
                          refine x_iinc (lv' := [(8, .int (xI ((K : Int) + 1))), (7, .int (xb ((0 ≤ z2 ∧ 0 ≤ z4 ∧ z2 + z5 ≤ (r_t1.1 : Int) ∧ z4 + z5 ≤ (r_t3.1 : Int)) ∧ ∀ t : Nat, t < K + 1 → r_t1.2 (Int.toNat z2 + t) = r_t3.2 (Int.toNat z4 + t)))), (0, .ref (ad 53)), (1, .int (xI (t1 : Int))), (2, .int (xI z2)), (3, .int (xI (t3 : Int))), (4, .int (xI z4)), (5, .int (xI z5))]) (k := 7) hx hb dX5_region_123 hl rfl (by decide) rfl (fun ls hl => ?_)
                          refine lv_goto (tgt := 70) hx hb dX5_region_126 (by decide) ?_
                          exact ih (K + 1) _ (by omega) Iff.rfl (by omega)  ls (lv_sub hl [2, 3, 4, 5, 6, 7, 1, 0] rfl)
                exact L70 _ 0 _ (by omega) (⟨fun q => ⟨q, fun t ht => absurd ht (Nat.not_lt_zero _)⟩, fun q => q.1⟩) (Nat.lt_succ_self _)  ls (lv_sub hl [3, 4, 5, 6, 7, 8, 1, 0] rfl)
              · have c_39 := xcmp_le.mp c_39
                refine lv_iload hx hb dX5_region_42 (lv_at hl 5 rfl) ?_
                refine x_i2l hx hb dX5_region_44 (by omega) ?_
                refine lv_iload hx hb dX5_region_45 (lv_at hl 6 rfl) ?_
                refine x_i2l hx hb dX5_region_47 (by omega) ?_
                refine x_ladd hx hb dX5_region_48 ?_
                refine lv_aload_n hx hb dX5_region_49 rfl (lv_at hl 1 rfl) ?_
                refine x_get (T := TX5) (N := 17) hx hb hts uX5 hown hK hP (i := 53) (by omega) hM.1 rfl 3 (by decide) u_fl_RX5_19 rfl dX5_region_50 ?_
                refine lv_iload_n hx hb dX5_region_53 rfl (lv_at hl 4 rfl) ?_
                refine x_ild hx hb hK hP (i := 57) (by omega) hM.2.2.2.2.1 (x := (r_t3.1 : Int)) (by omega) (congrArg xI hz_t3) dX5_region_54 ?_
                refine x_i2l hx hb dX5_region_55 (by omega) ?_
                refine x_lcmp hx hb dX5_region_56 (by omega) ?_
                refine x_if_gt (tgt := 64) hx hb dX5_region_57 (by decide) (xcmp_r _ _) (fun c_57 => ?_) (fun c_57 => ?_)
                · have c_57 := xcmp_gt.mp c_57
                  refine x_iconst hx hb dX5_region_64 ?_
                  refine x_tov (congrArg Value.int (show xI 0 = xb ((0 ≤ z2 ∧ 0 ≤ z4 ∧ z2 + z5 ≤ (r_t1.1 : Int) ∧ z4 + z5 ≤ (r_t3.1 : Int))) from xb_0 (by omega))) ?_
                  refine lv_istore (lv' := [(7, .int (xb (0 ≤ z2 ∧ 0 ≤ z4 ∧ z2 + z5 ≤ (r_t1.1 : Int) ∧ z4 + z5 ≤ (r_t3.1 : Int)))), (6, .int (xI 0)), (0, .ref (ad 53)), (1, .int (xI (t1 : Int))), (2, .int (xI z2)), (3, .int (xI (t3 : Int))), (4, .int (xI z4)), (5, .int (xI z5))]) hx hb dX5_region_65 hl (by decide) rfl (fun ls hl => ?_)
                  refine x_iconst hx hb dX5_region_67 ?_
                  refine lv_istore (lv' := [(8, .int (xI 0)), (7, .int (xb (0 ≤ z2 ∧ 0 ≤ z4 ∧ z2 + z5 ≤ (r_t1.1 : Int) ∧ z4 + z5 ≤ (r_t3.1 : Int)))), (6, .int (xI 0)), (0, .ref (ad 53)), (1, .int (xI (t1 : Int))), (2, .int (xI z2)), (3, .int (xI (t3 : Int))), (4, .int (xI z4)), (5, .int (xI z5))]) hx hb dX5_region_68 hl (by decide) rfl (fun ls hl => ?_)
                  have L70 : ∀ (nn : Nat) (K : Nat) (p9 : Prop), ((K : Int) ≤ z5 ∨ K = 0) → (p9 ↔ ((0 ≤ z2 ∧ 0 ≤ z4 ∧ z2 + z5 ≤ (r_t1.1 : Int) ∧ z4 + z5 ≤ (r_t3.1 : Int)) ∧ ∀ t : Nat, t < K → r_t1.2 (Int.toNat z2 + t) = r_t3.2 (Int.toNat z4 + t))) → ((z5 - K).toNat) < nn → ∀ ls : Array Slot, lv_has ls 9 [(0, .ref (ad 53)), (1, .int (xI (t1 : Int))), (2, .int (xI z2)), (3, .int (xI (t3 : Int))), (4, .int (xI z4)), (5, .int (xI z5)), (7, .int (xb p9)), (8, .int (xI (K : Int)))] → W p l e (xrm 3 67) s mm args below meth c s.heap [] 0 0 (MQ below (vp_Si (fun z => z = xI (am_region S (t1 : Int) z2 (t3 : Int) z4 z5))) args s 0 0 (fun _ => False)) (F0 mm 70 ls []) := by
                    intro nn
                    induction nn with
                    | zero =>
                      intro K p9  hk8 hp hmm  ls hl
                      exact absurd hmm (Nat.not_lt_zero _)
                    | succ nn ih =>
                      intro K p9  hk8 hp hmm  ls hl
                      refine lv_iload hx hb dX5_region_70 (lv_at hl 7 rfl) ?_
                      refine lv_iload hx hb dX5_region_72 (lv_at hl 5 rfl) ?_
                      refine x_icmp_ge (tgt := 129) hx hb dX5_region_74 (by decide) (by omega) (fun c_74 => ?_) (fun c_74 => ?_)
                      · refine lv_iload hx hb dX5_region_129 (lv_at hl 6 rfl) ?_
                        refine x_ifb_eq (tgt := 138) hx hb dX5_region_131 (by decide)  (fun c_131 => ?_) (fun c_131 => ?_)
                        · refine x_iconst hx hb dX5_region_138 ?_
                          exact xr_i hx hb hrt hlocks ((by unfold am_region; simp only [Int.toNat_natCast]; simp only [sp_get_s hS_t1, sp_get_s hS_t3]; rw [sp_if_f (by omega), sp_if_f (by simp [hS_t1, hS_t3])]; rw [xd_f (fun q => c_131 (hp.mpr ⟨q.1, fun t ht => q.2 t (by omega)⟩))])) dX5_region_139
                        · refine x_iconst hx hb dX5_region_134 ?_
                          refine lv_goto (tgt := 139) hx hb dX5_region_135 (by decide) ?_
                          exact xr_i hx hb hrt hlocks ((by unfold am_region; simp only [Int.toNat_natCast]; simp only [sp_get_s hS_t1, sp_get_s hS_t3]; rw [sp_if_f (by omega), sp_if_f (by simp [hS_t1, hS_t3])]; rw [xd_t ⟨(hp.mp c_131).1, fun t ht => (hp.mp c_131).2 t (by omega)⟩])) dX5_region_139
                      · refine lv_iload hx hb dX5_region_77 (lv_at hl 6 rfl) ?_
                        refine x_ifb_eq (tgt := 129) hx hb dX5_region_79 (by decide)  (fun c_79 => ?_) (fun c_79 => ?_)
                        · refine lv_iload hx hb dX5_region_129 (lv_at hl 6 rfl) ?_
                          refine x_ifb_eq (tgt := 138) hx hb dX5_region_131 (by decide)  (fun c_131 => ?_) (fun c_131 => ?_)
                          · refine x_iconst hx hb dX5_region_138 ?_
                            exact xr_i hx hb hrt hlocks ((by unfold am_region; simp only [Int.toNat_natCast]; simp only [sp_get_s hS_t1, sp_get_s hS_t3]; rw [sp_if_f (by omega), sp_if_f (by simp [hS_t1, hS_t3])]; rw [xd_f (fun q => c_79 (hp.mpr ⟨q.1, fun t ht => q.2 t (by omega)⟩))])) dX5_region_139
                          · refine x_iconst hx hb dX5_region_134 ?_
                            refine lv_goto (tgt := 139) hx hb dX5_region_135 (by decide) ?_
                            exact xr_i hx hb hrt hlocks ((by unfold am_region; simp only [Int.toNat_natCast]; simp only [sp_get_s hS_t1, sp_get_s hS_t3]; rw [sp_if_f (by omega), sp_if_f (by simp [hS_t1, hS_t3])]; rw [xd_t (absurd c_131 c_79)])) dX5_region_139
                        · have hpp := hp.mp c_79
                          have hfx := hfb_t1 (Int.toNat z2 + K) (by omega)
                          have hhx := hfb_t3 (Int.toNat z4 + K) (by omega)
                          refine lv_aload_n hx hb dX5_region_82 rfl (lv_at hl 0 rfl) ?_
                          refine x_get (T := TX5) (N := 17) hx hb hts uX5 hown hK hP (i := 53) (by omega) hM.1 rfl 2 (by decide) u_fl_RX5_16 rfl dX5_region_83 ?_
                          refine x_sipush hx hb dX5_region_86 (by decide +kernel) ?_
                          refine lv_iload_n hx hb dX5_region_89 rfl (lv_at hl 1 rfl) ?_
                          refine x_imul hx hb dX5_region_90 ?_
                          refine lv_iload_n hx hb dX5_region_91 rfl (lv_at hl 2 rfl) ?_
                          refine x_iadd hx hb dX5_region_92 ?_
                          refine lv_iload hx hb dX5_region_93 (lv_at hl 7 rfl) ?_
                          refine x_iadd hx hb dX5_region_95 ?_
                          refine x_ild hx hb hK hP (i := 56) (by omega) hM.2.2.2.1 (x := M.told (Int.toNat (((200 * (t1 : Int)) + z2) + (K : Int)))) (by omega) (rfl) dX5_region_96 ?_
                          refine x_to (r_t1.2 (Int.toNat z2 + K)) (by rw [show Int.toNat (200 * (t1 : Int) + z2 + (K : Int)) = 200 * t1 + (Int.toNat z2 + K) by omega]; exact hT_t1.2 _ (by omega)) ?_
                          refine lv_aload_n hx hb dX5_region_97 rfl (lv_at hl 0 rfl) ?_
                          refine x_get (T := TX5) (N := 17) hx hb hts uX5 hown hK hP (i := 53) (by omega) hM.1 rfl 2 (by decide) u_fl_RX5_16 rfl dX5_region_98 ?_
                          refine x_sipush hx hb dX5_region_101 (by decide +kernel) ?_
                          refine lv_iload_n hx hb dX5_region_104 rfl (lv_at hl 3 rfl) ?_
                          refine x_imul hx hb dX5_region_105 ?_
                          refine lv_iload hx hb dX5_region_106 (lv_at hl 4 rfl) ?_
                          refine x_iadd hx hb dX5_region_108 ?_
                          refine lv_iload hx hb dX5_region_109 (lv_at hl 7 rfl) ?_
                          refine x_iadd hx hb dX5_region_111 ?_
                          refine x_ild hx hb hK hP (i := 56) (by omega) hM.2.2.2.1 (x := M.told (Int.toNat (((200 * (t3 : Int)) + z4) + (K : Int)))) (by omega) (rfl) dX5_region_112 ?_
                          refine x_to (r_t3.2 (Int.toNat z4 + K)) (by rw [show Int.toNat (200 * (t3 : Int) + z4 + (K : Int)) = 200 * t3 + (Int.toNat z4 + K) by omega]; exact hT_t3.2 _ (by omega)) ?_
                          refine x_icmp_ne (tgt := 120) hx hb dX5_region_113 (by decide) (by omega) (fun c_113 => ?_) (fun c_113 => ?_)
                          · refine x_iconst hx hb dX5_region_120 ?_
                            refine x_tov (congrArg Value.int (show xI 0 = xb ((0 ≤ z2 ∧ 0 ≤ z4 ∧ z2 + z5 ≤ (r_t1.1 : Int) ∧ z4 + z5 ≤ (r_t3.1 : Int)) ∧ ∀ t : Nat, t < K + 1 → r_t1.2 (Int.toNat z2 + t) = r_t3.2 (Int.toNat z4 + t)) from xb_0 (fun w => c_113 (w.2 K (by omega))))) ?_
                            refine lv_istore (lv' := [(7, .int (xb ((0 ≤ z2 ∧ 0 ≤ z4 ∧ z2 + z5 ≤ (r_t1.1 : Int) ∧ z4 + z5 ≤ (r_t3.1 : Int)) ∧ ∀ t : Nat, t < K + 1 → r_t1.2 (Int.toNat z2 + t) = r_t3.2 (Int.toNat z4 + t)))), (0, .ref (ad 53)), (1, .int (xI (t1 : Int))), (2, .int (xI z2)), (3, .int (xI (t3 : Int))), (4, .int (xI z4)), (5, .int (xI z5)), (8, .int (xI (K : Int)))]) hx hb dX5_region_121 hl (by decide) rfl (fun ls hl => ?_)
                            refine x_iinc (lv' := [(8, .int (xI ((K : Int) + 1))), (7, .int (xb ((0 ≤ z2 ∧ 0 ≤ z4 ∧ z2 + z5 ≤ (r_t1.1 : Int) ∧ z4 + z5 ≤ (r_t3.1 : Int)) ∧ ∀ t : Nat, t < K + 1 → r_t1.2 (Int.toNat z2 + t) = r_t3.2 (Int.toNat z4 + t)))), (0, .ref (ad 53)), (1, .int (xI (t1 : Int))), (2, .int (xI z2)), (3, .int (xI (t3 : Int))), (4, .int (xI z4)), (5, .int (xI z5))]) (k := 7) hx hb dX5_region_123 hl rfl (by decide) rfl (fun ls hl => ?_)
                            refine lv_goto (tgt := 70) hx hb dX5_region_126 (by decide) ?_
                            exact ih (K + 1) _ (by omega) Iff.rfl (by omega)  ls (lv_sub hl [2, 3, 4, 5, 6, 7, 1, 0] rfl)
                          · refine x_iconst hx hb dX5_region_116 ?_
                            refine lv_goto (tgt := 121) hx hb dX5_region_117 (by decide) ?_
                            refine x_tov (congrArg Value.int (show xI 1 = xb ((0 ≤ z2 ∧ 0 ≤ z4 ∧ z2 + z5 ≤ (r_t1.1 : Int) ∧ z4 + z5 ≤ (r_t3.1 : Int)) ∧ ∀ t : Nat, t < K + 1 → r_t1.2 (Int.toNat z2 + t) = r_t3.2 (Int.toNat z4 + t)) from xb_1 (⟨hpp.1, fun t ht => by
      by_cases q : t = K
      · rw [q]; exact c_113
      · exact hpp.2 t (by omega)⟩))) ?_
                            refine lv_istore (lv' := [(7, .int (xb ((0 ≤ z2 ∧ 0 ≤ z4 ∧ z2 + z5 ≤ (r_t1.1 : Int) ∧ z4 + z5 ≤ (r_t3.1 : Int)) ∧ ∀ t : Nat, t < K + 1 → r_t1.2 (Int.toNat z2 + t) = r_t3.2 (Int.toNat z4 + t)))), (0, .ref (ad 53)), (1, .int (xI (t1 : Int))), (2, .int (xI z2)), (3, .int (xI (t3 : Int))), (4, .int (xI z4)), (5, .int (xI z5)), (8, .int (xI (K : Int)))]) hx hb dX5_region_121 hl (by decide) rfl (fun ls hl => ?_)
                            refine x_iinc (lv' := [(8, .int (xI ((K : Int) + 1))), (7, .int (xb ((0 ≤ z2 ∧ 0 ≤ z4 ∧ z2 + z5 ≤ (r_t1.1 : Int) ∧ z4 + z5 ≤ (r_t3.1 : Int)) ∧ ∀ t : Nat, t < K + 1 → r_t1.2 (Int.toNat z2 + t) = r_t3.2 (Int.toNat z4 + t)))), (0, .ref (ad 53)), (1, .int (xI (t1 : Int))), (2, .int (xI z2)), (3, .int (xI (t3 : Int))), (4, .int (xI z4)), (5, .int (xI z5))]) (k := 7) hx hb dX5_region_123 hl rfl (by decide) rfl (fun ls hl => ?_)
                            refine lv_goto (tgt := 70) hx hb dX5_region_126 (by decide) ?_
                            exact ih (K + 1) _ (by omega) Iff.rfl (by omega)  ls (lv_sub hl [2, 3, 4, 5, 6, 7, 1, 0] rfl)
                  exact L70 _ 0 _ (by omega) (⟨fun q => ⟨q, fun t ht => absurd ht (Nat.not_lt_zero _)⟩, fun q => q.1⟩) (Nat.lt_succ_self _)  ls (lv_sub hl [3, 4, 5, 6, 7, 8, 1, 0] rfl)
                · have c_57 := xcmp_le.mp c_57
                  refine x_iconst hx hb dX5_region_60 ?_
                  refine lv_goto (tgt := 65) hx hb dX5_region_61 (by decide) ?_
                  refine x_tov (congrArg Value.int (show xI 1 = xb ((0 ≤ z2 ∧ 0 ≤ z4 ∧ z2 + z5 ≤ (r_t1.1 : Int) ∧ z4 + z5 ≤ (r_t3.1 : Int))) from xb_1 (by omega))) ?_
                  refine lv_istore (lv' := [(7, .int (xb (0 ≤ z2 ∧ 0 ≤ z4 ∧ z2 + z5 ≤ (r_t1.1 : Int) ∧ z4 + z5 ≤ (r_t3.1 : Int)))), (6, .int (xI 0)), (0, .ref (ad 53)), (1, .int (xI (t1 : Int))), (2, .int (xI z2)), (3, .int (xI (t3 : Int))), (4, .int (xI z4)), (5, .int (xI z5))]) hx hb dX5_region_65 hl (by decide) rfl (fun ls hl => ?_)
                  refine x_iconst hx hb dX5_region_67 ?_
                  refine lv_istore (lv' := [(8, .int (xI 0)), (7, .int (xb (0 ≤ z2 ∧ 0 ≤ z4 ∧ z2 + z5 ≤ (r_t1.1 : Int) ∧ z4 + z5 ≤ (r_t3.1 : Int)))), (6, .int (xI 0)), (0, .ref (ad 53)), (1, .int (xI (t1 : Int))), (2, .int (xI z2)), (3, .int (xI (t3 : Int))), (4, .int (xI z4)), (5, .int (xI z5))]) hx hb dX5_region_68 hl (by decide) rfl (fun ls hl => ?_)
                  have L70 : ∀ (nn : Nat) (K : Nat) (p9 : Prop), ((K : Int) ≤ z5 ∨ K = 0) → (p9 ↔ ((0 ≤ z2 ∧ 0 ≤ z4 ∧ z2 + z5 ≤ (r_t1.1 : Int) ∧ z4 + z5 ≤ (r_t3.1 : Int)) ∧ ∀ t : Nat, t < K → r_t1.2 (Int.toNat z2 + t) = r_t3.2 (Int.toNat z4 + t))) → ((z5 - K).toNat) < nn → ∀ ls : Array Slot, lv_has ls 9 [(0, .ref (ad 53)), (1, .int (xI (t1 : Int))), (2, .int (xI z2)), (3, .int (xI (t3 : Int))), (4, .int (xI z4)), (5, .int (xI z5)), (7, .int (xb p9)), (8, .int (xI (K : Int)))] → W p l e (xrm 3 67) s mm args below meth c s.heap [] 0 0 (MQ below (vp_Si (fun z => z = xI (am_region S (t1 : Int) z2 (t3 : Int) z4 z5))) args s 0 0 (fun _ => False)) (F0 mm 70 ls []) := by
                    intro nn
                    induction nn with
                    | zero =>
                      intro K p9  hk8 hp hmm  ls hl
                      exact absurd hmm (Nat.not_lt_zero _)
                    | succ nn ih =>
                      intro K p9  hk8 hp hmm  ls hl
                      refine lv_iload hx hb dX5_region_70 (lv_at hl 7 rfl) ?_
                      refine lv_iload hx hb dX5_region_72 (lv_at hl 5 rfl) ?_
                      refine x_icmp_ge (tgt := 129) hx hb dX5_region_74 (by decide) (by omega) (fun c_74 => ?_) (fun c_74 => ?_)
                      · refine lv_iload hx hb dX5_region_129 (lv_at hl 6 rfl) ?_
                        refine x_ifb_eq (tgt := 138) hx hb dX5_region_131 (by decide)  (fun c_131 => ?_) (fun c_131 => ?_)
                        · refine x_iconst hx hb dX5_region_138 ?_
                          exact xr_i hx hb hrt hlocks ((by unfold am_region; simp only [Int.toNat_natCast]; simp only [sp_get_s hS_t1, sp_get_s hS_t3]; rw [sp_if_f (by omega), sp_if_f (by simp [hS_t1, hS_t3])]; rw [xd_f (fun q => c_131 (hp.mpr ⟨q.1, fun t ht => q.2 t (by omega)⟩))])) dX5_region_139
                        · refine x_iconst hx hb dX5_region_134 ?_
                          refine lv_goto (tgt := 139) hx hb dX5_region_135 (by decide) ?_
                          exact xr_i hx hb hrt hlocks ((by unfold am_region; simp only [Int.toNat_natCast]; simp only [sp_get_s hS_t1, sp_get_s hS_t3]; rw [sp_if_f (by omega), sp_if_f (by simp [hS_t1, hS_t3])]; rw [xd_t ⟨(hp.mp c_131).1, fun t ht => (hp.mp c_131).2 t (by omega)⟩])) dX5_region_139
                      · refine lv_iload hx hb dX5_region_77 (lv_at hl 6 rfl) ?_
                        refine x_ifb_eq (tgt := 129) hx hb dX5_region_79 (by decide)  (fun c_79 => ?_) (fun c_79 => ?_)
                        · refine lv_iload hx hb dX5_region_129 (lv_at hl 6 rfl) ?_
                          refine x_ifb_eq (tgt := 138) hx hb dX5_region_131 (by decide)  (fun c_131 => ?_) (fun c_131 => ?_)
                          · refine x_iconst hx hb dX5_region_138 ?_
                            exact xr_i hx hb hrt hlocks ((by unfold am_region; simp only [Int.toNat_natCast]; simp only [sp_get_s hS_t1, sp_get_s hS_t3]; rw [sp_if_f (by omega), sp_if_f (by simp [hS_t1, hS_t3])]; rw [xd_f (fun q => c_79 (hp.mpr ⟨q.1, fun t ht => q.2 t (by omega)⟩))])) dX5_region_139
                          · refine x_iconst hx hb dX5_region_134 ?_
                            refine lv_goto (tgt := 139) hx hb dX5_region_135 (by decide) ?_
                            exact xr_i hx hb hrt hlocks ((by unfold am_region; simp only [Int.toNat_natCast]; simp only [sp_get_s hS_t1, sp_get_s hS_t3]; rw [sp_if_f (by omega), sp_if_f (by simp [hS_t1, hS_t3])]; rw [xd_t (absurd c_131 c_79)])) dX5_region_139
                        · have hpp := hp.mp c_79
                          have hfx := hfb_t1 (Int.toNat z2 + K) (by omega)
                          have hhx := hfb_t3 (Int.toNat z4 + K) (by omega)
                          refine lv_aload_n hx hb dX5_region_82 rfl (lv_at hl 0 rfl) ?_
                          refine x_get (T := TX5) (N := 17) hx hb hts uX5 hown hK hP (i := 53) (by omega) hM.1 rfl 2 (by decide) u_fl_RX5_16 rfl dX5_region_83 ?_
                          refine x_sipush hx hb dX5_region_86 (by decide +kernel) ?_
                          refine lv_iload_n hx hb dX5_region_89 rfl (lv_at hl 1 rfl) ?_
                          refine x_imul hx hb dX5_region_90 ?_
                          refine lv_iload_n hx hb dX5_region_91 rfl (lv_at hl 2 rfl) ?_
                          refine x_iadd hx hb dX5_region_92 ?_
                          refine lv_iload hx hb dX5_region_93 (lv_at hl 7 rfl) ?_
                          refine x_iadd hx hb dX5_region_95 ?_
                          refine x_ild hx hb hK hP (i := 56) (by omega) hM.2.2.2.1 (x := M.told (Int.toNat (((200 * (t1 : Int)) + z2) + (K : Int)))) (by omega) (rfl) dX5_region_96 ?_
                          refine x_to (r_t1.2 (Int.toNat z2 + K)) (by rw [show Int.toNat (200 * (t1 : Int) + z2 + (K : Int)) = 200 * t1 + (Int.toNat z2 + K) by omega]; exact hT_t1.2 _ (by omega)) ?_
                          refine lv_aload_n hx hb dX5_region_97 rfl (lv_at hl 0 rfl) ?_
                          refine x_get (T := TX5) (N := 17) hx hb hts uX5 hown hK hP (i := 53) (by omega) hM.1 rfl 2 (by decide) u_fl_RX5_16 rfl dX5_region_98 ?_
                          refine x_sipush hx hb dX5_region_101 (by decide +kernel) ?_
                          refine lv_iload_n hx hb dX5_region_104 rfl (lv_at hl 3 rfl) ?_
                          refine x_imul hx hb dX5_region_105 ?_
                          refine lv_iload hx hb dX5_region_106 (lv_at hl 4 rfl) ?_
                          refine x_iadd hx hb dX5_region_108 ?_
                          refine lv_iload hx hb dX5_region_109 (lv_at hl 7 rfl) ?_
                          refine x_iadd hx hb dX5_region_111 ?_
                          refine x_ild hx hb hK hP (i := 56) (by omega) hM.2.2.2.1 (x := M.told (Int.toNat (((200 * (t3 : Int)) + z4) + (K : Int)))) (by omega) (rfl) dX5_region_112 ?_
                          refine x_to (r_t3.2 (Int.toNat z4 + K)) (by rw [show Int.toNat (200 * (t3 : Int) + z4 + (K : Int)) = 200 * t3 + (Int.toNat z4 + K) by omega]; exact hT_t3.2 _ (by omega)) ?_
                          refine x_icmp_ne (tgt := 120) hx hb dX5_region_113 (by decide) (by omega) (fun c_113 => ?_) (fun c_113 => ?_)
                          · refine x_iconst hx hb dX5_region_120 ?_
                            refine x_tov (congrArg Value.int (show xI 0 = xb ((0 ≤ z2 ∧ 0 ≤ z4 ∧ z2 + z5 ≤ (r_t1.1 : Int) ∧ z4 + z5 ≤ (r_t3.1 : Int)) ∧ ∀ t : Nat, t < K + 1 → r_t1.2 (Int.toNat z2 + t) = r_t3.2 (Int.toNat z4 + t)) from xb_0 (fun w => c_113 (w.2 K (by omega))))) ?_
                            refine lv_istore (lv' := [(7, .int (xb ((0 ≤ z2 ∧ 0 ≤ z4 ∧ z2 + z5 ≤ (r_t1.1 : Int) ∧ z4 + z5 ≤ (r_t3.1 : Int)) ∧ ∀ t : Nat, t < K + 1 → r_t1.2 (Int.toNat z2 + t) = r_t3.2 (Int.toNat z4 + t)))), (0, .ref (ad 53)), (1, .int (xI (t1 : Int))), (2, .int (xI z2)), (3, .int (xI (t3 : Int))), (4, .int (xI z4)), (5, .int (xI z5)), (8, .int (xI (K : Int)))]) hx hb dX5_region_121 hl (by decide) rfl (fun ls hl => ?_)
                            refine x_iinc (lv' := [(8, .int (xI ((K : Int) + 1))), (7, .int (xb ((0 ≤ z2 ∧ 0 ≤ z4 ∧ z2 + z5 ≤ (r_t1.1 : Int) ∧ z4 + z5 ≤ (r_t3.1 : Int)) ∧ ∀ t : Nat, t < K + 1 → r_t1.2 (Int.toNat z2 + t) = r_t3.2 (Int.toNat z4 + t)))), (0, .ref (ad 53)), (1, .int (xI (t1 : Int))), (2, .int (xI z2)), (3, .int (xI (t3 : Int))), (4, .int (xI z4)), (5, .int (xI z5))]) (k := 7) hx hb dX5_region_123 hl rfl (by decide) rfl (fun ls hl => ?_)
                            refine lv_goto (tgt := 70) hx hb dX5_region_126 (by decide) ?_
                            exact ih (K + 1) _ (by omega) Iff.rfl (by omega)  ls (lv_sub hl [2, 3, 4, 5, 6, 7, 1, 0] rfl)
                          · refine x_iconst hx hb dX5_region_116 ?_
                            refine lv_goto (tgt := 121) hx hb dX5_region_117 (by decide) ?_
                            refine x_tov (congrArg Value.int (show xI 1 = xb ((0 ≤ z2 ∧ 0 ≤ z4 ∧ z2 + z5 ≤ (r_t1.1 : Int) ∧ z4 + z5 ≤ (r_t3.1 : Int)) ∧ ∀ t : Nat, t < K + 1 → r_t1.2 (Int.toNat z2 + t) = r_t3.2 (Int.toNat z4 + t)) from xb_1 (⟨hpp.1, fun t ht => by
      by_cases q : t = K
      · rw [q]; exact c_113
      · exact hpp.2 t (by omega)⟩))) ?_
                            refine lv_istore (lv' := [(7, .int (xb ((0 ≤ z2 ∧ 0 ≤ z4 ∧ z2 + z5 ≤ (r_t1.1 : Int) ∧ z4 + z5 ≤ (r_t3.1 : Int)) ∧ ∀ t : Nat, t < K + 1 → r_t1.2 (Int.toNat z2 + t) = r_t3.2 (Int.toNat z4 + t)))), (0, .ref (ad 53)), (1, .int (xI (t1 : Int))), (2, .int (xI z2)), (3, .int (xI (t3 : Int))), (4, .int (xI z4)), (5, .int (xI z5)), (8, .int (xI (K : Int)))]) hx hb dX5_region_121 hl (by decide) rfl (fun ls hl => ?_)
                            refine x_iinc (lv' := [(8, .int (xI ((K : Int) + 1))), (7, .int (xb ((0 ≤ z2 ∧ 0 ≤ z4 ∧ z2 + z5 ≤ (r_t1.1 : Int) ∧ z4 + z5 ≤ (r_t3.1 : Int)) ∧ ∀ t : Nat, t < K + 1 → r_t1.2 (Int.toNat z2 + t) = r_t3.2 (Int.toNat z4 + t)))), (0, .ref (ad 53)), (1, .int (xI (t1 : Int))), (2, .int (xI z2)), (3, .int (xI (t3 : Int))), (4, .int (xI z4)), (5, .int (xI z5))]) (k := 7) hx hb dX5_region_123 hl rfl (by decide) rfl (fun ls hl => ?_)
                            refine lv_goto (tgt := 70) hx hb dX5_region_126 (by decide) ?_
                            exact ih (K + 1) _ (by omega) Iff.rfl (by omega)  ls (lv_sub hl [2, 3, 4, 5, 6, 7, 1, 0] rfl)
                  exact L70 _ 0 _ (by omega) (⟨fun q => ⟨q, fun t ht => absurd ht (Nat.not_lt_zero _)⟩, fun q => q.1⟩) (Nat.lt_succ_self _)  ls (lv_sub hl [3, 4, 5, 6, 7, 8, 1, 0] rfl)
      · have hT_t1 : M.toldMany t1 = (r_t1.1 : Int) ∧ ∀ k : Nat, k < r_t1.1 → M.told (200 * t1 + k) = r_t1.2 k := by have q := hR.2.1 t1 h_t1; rw [hS_t1] at q; exact q
        have hz_t1 := hT_t1.1
        have hm_t1 := (hW.2.1 t1 r_t1 h_t1 hS_t1).1
        have hfb_t1 := (hW.2.1 t1 r_t1 h_t1 hS_t1).2
        refine lv_aload_n hx hb dX5_region_0 rfl (lv_at hl 0 rfl) ?_
        refine lv_iload_n hx hb dX5_region_1 rfl (lv_at hl 1 rfl) ?_
        refine lv_iload_n hx hb dX5_region_2 rfl (lv_at hl 3 rfl) ?_
        have hy_t1 : M.toldMany (Int.toNat (t1 : Int)) = (r_t1.1 : Int) := hz_t1
        refine xv_i (i := 53) (As := [.int (xI (t1 : Int)), .int (xI z3)]) (rest := []) ⟨hx, hb, hml, hown, hts⟩ hl.1 (c_X5_barsTwo l D cA n ad en hn hM (t1 : Int) z3 (-1001) (by omega) (by omega) (fun _ => by show -1 ≤ M.toldMany t1 ∧ M.toldMany t1 ≤ 200; omega) (fun h => absurd h (by omega)) (by omega)) k_X5_barsTwo u_ml_RX5_128 hK hN hP (by omega) hM.1 rfl rfl rfl rfl (Nat.le_of_ble_eq_true rfl) ⟨Nat.le_of_ble_eq_true rfl, Nat.le_of_ble_eq_true rfl⟩ ⟨Nat.le_of_ble_eq_true rfl, Nat.le_of_ble_eq_true rfl⟩ dX5_region_3 ?_
        refine lv_istore (lv' := [(6, .int (xI (-1001))), (0, .ref (ad 53)), (1, .int (xI (t1 : Int))), (2, .int (xI z2)), (3, .int (xI z3)), (4, .int (xI z4)), (5, .int (xI z5))]) hx hb dX5_region_6 hl (by decide) rfl (fun ls hl => ?_)
        refine lv_iload hx hb dX5_region_8 (lv_at hl 0 rfl) ?_
        refine x_if_ge (tgt := 16) hx hb dX5_region_10 (by decide) (by omega) (fun c_10 => absurd c_10 (by omega)) (fun c_10 => ?_)
        refine lv_iload hx hb dX5_region_13 (lv_at hl 0 rfl) ?_
        exact xr_i hx hb hrt hlocks ((by unfold am_region; simp only [Int.toNat_natCast]; simp only [sp_get_s hS_t1]; rw [sp_if_t (by omega)])) dX5_region_15
  · rcases Classical.em (0 ≤ z3 ∧ z3 < 8) with hx_z3 | hx_z3
    · obtain ⟨t3, rfl⟩ : ∃ q : Nat, z3 = (q : Int) := ⟨z3.toNat, by omega⟩
      have h_t3 : t3 < 8 := by omega
      rcases hS_t3 : S.2.1 t3 with _ | r_t3
      · have hz_t3 : M.toldMany t3 = -1 := by have q := hR.2.1 t3 h_t3; rw [hS_t3] at q; exact q
        refine lv_aload_n hx hb dX5_region_0 rfl (lv_at hl 0 rfl) ?_
        refine lv_iload_n hx hb dX5_region_1 rfl (lv_at hl 1 rfl) ?_
        refine lv_iload_n hx hb dX5_region_2 rfl (lv_at hl 3 rfl) ?_
        have hy_t3 : M.toldMany (Int.toNat (t3 : Int)) = -1 := hz_t3
        refine xv_i (i := 53) (As := [.int (xI z1), .int (xI (t3 : Int))]) (rest := []) ⟨hx, hb, hml, hown, hts⟩ hl.1 (c_X5_barsTwo l D cA n ad en hn hM z1 (t3 : Int) (-1001) (by omega) (by omega) (fun h => absurd h (by omega)) (fun _ => by show -1 ≤ M.toldMany t3 ∧ M.toldMany t3 ≤ 200; omega) (by omega)) k_X5_barsTwo u_ml_RX5_128 hK hN hP (by omega) hM.1 rfl rfl rfl rfl (Nat.le_of_ble_eq_true rfl) ⟨Nat.le_of_ble_eq_true rfl, Nat.le_of_ble_eq_true rfl⟩ ⟨Nat.le_of_ble_eq_true rfl, Nat.le_of_ble_eq_true rfl⟩ dX5_region_3 ?_
        refine lv_istore (lv' := [(6, .int (xI (-1001))), (0, .ref (ad 53)), (1, .int (xI z1)), (2, .int (xI z2)), (3, .int (xI (t3 : Int))), (4, .int (xI z4)), (5, .int (xI z5))]) hx hb dX5_region_6 hl (by decide) rfl (fun ls hl => ?_)
        refine lv_iload hx hb dX5_region_8 (lv_at hl 0 rfl) ?_
        refine x_if_ge (tgt := 16) hx hb dX5_region_10 (by decide) (by omega) (fun c_10 => absurd c_10 (by omega)) (fun c_10 => ?_)
        refine lv_iload hx hb dX5_region_13 (lv_at hl 0 rfl) ?_
        exact xr_i hx hb hrt hlocks ((by unfold am_region; simp only [Int.toNat_natCast]; rw [sp_if_t (by omega)])) dX5_region_15
      · have hT_t3 : M.toldMany t3 = (r_t3.1 : Int) ∧ ∀ k : Nat, k < r_t3.1 → M.told (200 * t3 + k) = r_t3.2 k := by have q := hR.2.1 t3 h_t3; rw [hS_t3] at q; exact q
        have hz_t3 := hT_t3.1
        have hm_t3 := (hW.2.1 t3 r_t3 h_t3 hS_t3).1
        have hfb_t3 := (hW.2.1 t3 r_t3 h_t3 hS_t3).2
        refine lv_aload_n hx hb dX5_region_0 rfl (lv_at hl 0 rfl) ?_
        refine lv_iload_n hx hb dX5_region_1 rfl (lv_at hl 1 rfl) ?_
        refine lv_iload_n hx hb dX5_region_2 rfl (lv_at hl 3 rfl) ?_
        have hy_t3 : M.toldMany (Int.toNat (t3 : Int)) = (r_t3.1 : Int) := hz_t3
        refine xv_i (i := 53) (As := [.int (xI z1), .int (xI (t3 : Int))]) (rest := []) ⟨hx, hb, hml, hown, hts⟩ hl.1 (c_X5_barsTwo l D cA n ad en hn hM z1 (t3 : Int) (-1001) (by omega) (by omega) (fun h => absurd h (by omega)) (fun _ => by show -1 ≤ M.toldMany t3 ∧ M.toldMany t3 ≤ 200; omega) (by omega)) k_X5_barsTwo u_ml_RX5_128 hK hN hP (by omega) hM.1 rfl rfl rfl rfl (Nat.le_of_ble_eq_true rfl) ⟨Nat.le_of_ble_eq_true rfl, Nat.le_of_ble_eq_true rfl⟩ ⟨Nat.le_of_ble_eq_true rfl, Nat.le_of_ble_eq_true rfl⟩ dX5_region_3 ?_
        refine lv_istore (lv' := [(6, .int (xI (-1001))), (0, .ref (ad 53)), (1, .int (xI z1)), (2, .int (xI z2)), (3, .int (xI (t3 : Int))), (4, .int (xI z4)), (5, .int (xI z5))]) hx hb dX5_region_6 hl (by decide) rfl (fun ls hl => ?_)
        refine lv_iload hx hb dX5_region_8 (lv_at hl 0 rfl) ?_
        refine x_if_ge (tgt := 16) hx hb dX5_region_10 (by decide) (by omega) (fun c_10 => absurd c_10 (by omega)) (fun c_10 => ?_)
        refine lv_iload hx hb dX5_region_13 (lv_at hl 0 rfl) ?_
        exact xr_i hx hb hrt hlocks ((by unfold am_region; simp only [Int.toNat_natCast]; simp only [sp_get_s hS_t3]; rw [sp_if_t (by omega)])) dX5_region_15
    · refine lv_aload_n hx hb dX5_region_0 rfl (lv_at hl 0 rfl) ?_
      refine lv_iload_n hx hb dX5_region_1 rfl (lv_at hl 1 rfl) ?_
      refine lv_iload_n hx hb dX5_region_2 rfl (lv_at hl 3 rfl) ?_
      refine xv_i (i := 53) (As := [.int (xI z1), .int (xI z3)]) (rest := []) ⟨hx, hb, hml, hown, hts⟩ hl.1 (c_X5_barsTwo l D cA n ad en hn hM z1 z3 (-1001) (by omega) (by omega) (fun h => absurd h (by omega)) (fun h => absurd h (by omega)) (by omega)) k_X5_barsTwo u_ml_RX5_128 hK hN hP (by omega) hM.1 rfl rfl rfl rfl (Nat.le_of_ble_eq_true rfl) ⟨Nat.le_of_ble_eq_true rfl, Nat.le_of_ble_eq_true rfl⟩ ⟨Nat.le_of_ble_eq_true rfl, Nat.le_of_ble_eq_true rfl⟩ dX5_region_3 ?_
      refine lv_istore (lv' := [(6, .int (xI (-1001))), (0, .ref (ad 53)), (1, .int (xI z1)), (2, .int (xI z2)), (3, .int (xI z3)), (4, .int (xI z4)), (5, .int (xI z5))]) hx hb dX5_region_6 hl (by decide) rfl (fun ls hl => ?_)
      refine lv_iload hx hb dX5_region_8 (lv_at hl 0 rfl) ?_
      refine x_if_ge (tgt := 16) hx hb dX5_region_10 (by decide) (by omega) (fun c_10 => absurd c_10 (by omega)) (fun c_10 => ?_)
      refine lv_iload hx hb dX5_region_13 (lv_at hl 0 rfl) ?_
      exact xr_i hx hb hrt hlocks ((by unfold am_region; rw [sp_if_t (by omega)])) dX5_region_15

set_option maxRecDepth 20000 in
theorem c_X5_number (l : Launch) (D : va_G) (cA : Nat → ClassId) (n : Nat) (ad : Nat → Nat) (en : Nat → va_E) (sz : Nat) (hn : 68 ≤ n) {M : MO} (hM : MW cA ad en M) {S : xSt} (hW : WF S) (hR : MR S M) (z1 : Int) (hz1 : -2147483648 ≤ z1 ∧ z1 ≤ 2147483647) (z2 : Int) (hz2 : -9223372036854775808 ≤ z2 ∧ z2 ≤ 9223372036854775807) : Met l yX5_number (Cond.code yX5_number cX5_number 8 (some .int) :: xU) (xrm 2 48) (va_Pc [.ref (ad 53), .int (xI z1), .long (xL z2)] (xM D cA n ad en sz)) (va_Qi (fun r u => r = xI (am_number S z1 z2).1 ∧ ∃ M' : MO, MW cA ad u M' ∧ MR (am_number S z1 z2).2 M' ∧ xO 53 68 en u) (xE D n ad) (xA n ad sz)) 0 0 (xA n ad sz) := by
  refine xmet (by decide) (Nat.le_of_ble_eq_true rfl) (fun p e s mm args below meth c ls hx hb hrt hml hown hts hlocks hname hB hl => ?_)
  obtain ⟨⟨hP, hK, hN⟩, hsz, hDt⟩ := hB
  have hD : xD (xA n ad sz) n ad := xD_self hDt sz
  have hA : ∀ q : Nat, s.heap.size ≤ q → xA n ad sz q := fun q h => Or.inr (by rw [← hsz]; exact h)
  have hS : va_S (xA n ad sz) s.heap s.heap [] := va_S.rf
  have hown : s.vm.findClass RX5 = some mm.cls := hown
  have hl : lv_has ls 8 [(0, .ref (ad 53)), (1, .int (xI z1)), (2, .long (xL z2))] := hl
  have ho : xO 53 68 en en := xO.rf
  rcases Classical.em (0 ≤ z1 ∧ z1 < 4) with hx_z1 | hx_z1
  · obtain ⟨b1, rfl⟩ : ∃ q : Nat, z1 = (q : Int) := ⟨z1.toNat, by omega⟩
    have h_b1 : b1 < 4 := by omega
    have hm_b1 := (hW.1 b1 h_b1).1
    have hfb_b1 := (hW.1 b1 h_b1).2
    have hB_b1 := hR.1 b1 h_b1
    have hz_b1 := hB_b1.1
    refine lv_iload_n hx hb dX5_number_0 rfl (lv_at hl 1 rfl) ?_
    refine xt_i (As := [.int (xI (b1 : Int))]) (rest := []) ⟨hx, hb, hml, hown, hts⟩ hl.1 (c_X5_isBuilder l (b1 : Int) (by omega)) k_X5_isBuilder u_ml_RX5_70 rfl rfl (Nat.le_of_ble_eq_true rfl) ⟨Nat.le_of_ble_eq_true rfl, Nat.le_of_ble_eq_true rfl⟩ ⟨Nat.le_of_ble_eq_true rfl, Nat.le_of_ble_eq_true rfl⟩ dX5_number_1 ?_
    refine x_top (q1 := True) ⟨fun _ => trivial, fun _ => by omega⟩ ?_
    refine x_ifb_ne (tgt := 11) hx hb dX5_number_4 (by decide)  (fun c_4 => ?_) (fun c_4 => absurd trivial c_4)
    refine lv_lload_n hx hb dX5_number_11 rfl (lv_at hl 2 rfl) ?_
    refine lv_lstore (lv' := [(4, .long (xL z2)), (0, .ref (ad 53)), (1, .int (xI (b1 : Int))), (2, .long (xL z2))]) hx hb dX5_number_12 hl (by decide) rfl (fun ls hl => ?_)
    refine x_iconst hx hb dX5_number_14 ?_
    refine lv_istore (lv' := [(6, .int (xI 0)), (4, .long (xL z2)), (0, .ref (ad 53)), (1, .int (xI (b1 : Int))), (2, .long (xL z2))]) hx hb dX5_number_15 hl (by decide) rfl (fun ls hl => ?_)
    have L17 : ∀ (nn : Nat) (q : Nat) (G : Nat → Int) (ew17 : Nat → va_E) (H : Heap) (locs : List Loc), (q ≤ 19) → (sp_ln z2 (19 - q) q = sp_len z2) → (∀ t : Nat, t < q → G t = sp_dg z2 t) → (19 - q) < nn → (MW cA ad ew17 (mO M.built M.builtMany M.told M.toldMany M.row M.rowMany G M.partText M.partFrom M.partMany M.parts M.cut M.cutMany M.isCut M.cutGives M.cutAt M.h)) → (xO 53 68 en ew17) → va_P D vwCl (xw n ad ew17) H → va_S (xA n ad sz) s.heap H locs → ∀ ls : Array Slot, lv_has ls 8 [(0, .ref (ad 53)), (1, .int (xI (b1 : Int))), (2, .long (xL z2)), (4, .long (xL (sp_q z2 q))), (6, .int (xI (q : Int)))] → W p l e (xrm 2 48) s mm args below meth c H locs 0 0 (MQ below (va_Qi (fun r u => r = xI (am_number S (b1 : Int) z2).1 ∧ ∃ M' : MO, MW cA ad u M' ∧ MR (am_number S (b1 : Int) z2).2 M' ∧ xO 53 68 en u) (xE D n ad) (xA n ad sz)) args s 0 0 (xA n ad sz)) (F0 mm 17 ls []) := by
      intro nn
      induction nn with
      | zero =>
        intro q G ew17 H locs hq hL hG hmm hM ho hP hS ls hl
        exact absurd hmm (Nat.not_lt_zero _)
      | succ nn ih =>
        intro q G ew17 H locs hq hL hG hmm hM ho hP hS ls hl
        refine lv_lload hx hb dX5_number_17 (lv_at hl 3 rfl) ?_
        refine lv_lconst (v := xL 0) hx hb dX5_number_19 (by decide +kernel) ?_
        refine x_lcmp hx hb dX5_number_20 (⟨sp_q_r hz2 q, by omega⟩) ?_
        refine x_if_ne (tgt := 29) hx hb dX5_number_21 (by decide) (xcmp_r _ _) (fun c_21 => ?_) (fun c_21 => ?_)
        · have c_21 := xcmp_ne.mp c_21
          have htm := sp_tm (sp_q z2 q)
          have hq9 : q < 19 := Classical.byContradiction (fun w => by have w2 : q = 19 := (by omega); have h19 := sp_q_19 hz2; rw [w2] at c_21; exact c_21 h19)
          refine lv_lload hx hb dX5_number_29 (lv_at hl 3 rfl) ?_
          refine x_ldc2 hx hb hown (hts _ u_ko_RX5_97) (k := 10) (by decide +kernel) dX5_number_31 ?_
          refine x_lrem hx hb dX5_number_34 (sp_q_r hz2 q) ?_
          refine x_l2i hx hb dX5_number_35 ?_
          refine lv_istore (lv' := [(7, .int (xI (Int.tmod (sp_q z2 q) 10))), (0, .ref (ad 53)), (1, .int (xI (b1 : Int))), (2, .long (xL z2)), (4, .long (xL (sp_q z2 q))), (6, .int (xI (q : Int)))]) hx hb dX5_number_36 hl (by decide) rfl (fun ls hl => ?_)
          refine lv_aload_n hx hb dX5_number_38 rfl (lv_at hl 1 rfl) ?_
          refine x_get (T := TX5) (N := 17) hx hb hts uX5 hown hK hP (i := 53) (by omega) (show ew17 53 = .inr (5, [.ref (ad 54), .ref (ad 55), .ref (ad 56), .ref (ad 57), .ref (ad 58), .int (xI M.rowMany), .ref (ad 59), .ref (ad 60), .ref (ad 61), .ref (ad 62), .int (xI M.parts), .ref (ad 63), .ref (ad 64), .ref (ad 65), .ref (ad 66), .ref (ad 67), .long M.h]) from hM.1) rfl 6 (by decide) u_fl_RX5_25 rfl dX5_number_39 ?_
          refine lv_iload hx hb dX5_number_42 (lv_at hl 5 rfl) ?_
          refine x_bipush hx hb dX5_number_44 (by decide +kernel) ?_
          refine lv_iload hx hb dX5_number_46 (lv_at hl 0 rfl) ?_
          refine x_if_ge (tgt := 57) hx hb dX5_number_48 (by decide) (by omega) (fun c_48 => ?_) (fun c_48 => ?_)
          · refine lv_iload hx hb dX5_number_57 (lv_at hl 0 rfl) ?_
            refine x_iadd hx hb dX5_number_59 ?_
            refine x_to (sp_dg z2 q) (by unfold sp_dg; rw [if_pos (by omega)]) ?_
            refine x_ist hx hb hK hP hD hS (i := 59) (by omega) hM.2.2.2.2.2.2.1 (by omega) dX5_number_60 (fun H locs hP hS => ?_)
            obtain ⟨en1, he1⟩ : ∃ z, z = va_up ew17 59 (.inl (cA 0, 24, .inl (upd (fun k => xI (G k)) q (xI (sp_dg z2 q))))) := ⟨_, rfl⟩
            have hP : va_P D vwCl (xw n ad en1) H := by rw [he1]; exact hP
            have hM : MW cA ad en1 (mO M.built M.builtMany M.told M.toldMany M.row M.rowMany (sp_up G q (sp_dg z2 q)) M.partText M.partFrom M.partMany M.parts M.cut M.cutMany M.isCut M.cutGives M.cutAt M.h) := by rw [he1]; exact hM.u_figures q (sp_dg z2 q)
            have ho : xO 53 68 en en1 := by rw [he1]; exact ho.up (by omega) (by omega)
            refine lv_lload hx hb dX5_number_61 (lv_at hl 4 rfl) ?_
            refine x_ldc2 hx hb hown (hts _ u_ko_RX5_97) (k := 10) (by decide +kernel) dX5_number_63 ?_
            refine x_ldiv hx hb dX5_number_66 (sp_q_r hz2 q) ?_
            refine lv_lstore (lv' := [(4, .long (xL (sp_q z2 (q + 1)))), (7, .int (xI (Int.tmod (sp_q z2 q) 10))), (0, .ref (ad 53)), (1, .int (xI (b1 : Int))), (2, .long (xL z2)), (6, .int (xI (q : Int)))]) hx hb dX5_number_67 hl (by decide) rfl (fun ls hl => ?_)
            refine x_iinc (lv' := [(6, .int (xI ((q : Int) + 1))), (4, .long (xL (sp_q z2 (q + 1)))), (7, .int (xI (Int.tmod (sp_q z2 q) 10))), (0, .ref (ad 53)), (1, .int (xI (b1 : Int))), (2, .long (xL z2))]) (k := 5) hx hb dX5_number_69 hl rfl (by decide) rfl (fun ls hl => ?_)
            refine lv_goto (tgt := 17) hx hb dX5_number_72 (by decide) ?_
            exact ih (q + 1) _ en1 _ _ (by omega) ((sp_ln_t (by omega) (by omega)).symm.trans hL) (fun t ht => by
      by_cases q1 : t = q
      · rw [q1, sp_up_s]
      · rw [sp_up_n _ _ (by omega)]; exact hG t (by omega)) (by omega) hM ho hP hS ls (lv_sub hl [3, 4, 5, 1, 0] rfl)
          · refine lv_iload hx hb dX5_number_51 (lv_at hl 0 rfl) ?_
            refine x_ineg hx hb dX5_number_53 ?_
            refine lv_goto (tgt := 59) hx hb dX5_number_54 (by decide) ?_
            refine x_iadd hx hb dX5_number_59 ?_
            refine x_to (sp_dg z2 q) (by unfold sp_dg; rw [if_neg (by omega)]) ?_
            refine x_ist hx hb hK hP hD hS (i := 59) (by omega) hM.2.2.2.2.2.2.1 (by omega) dX5_number_60 (fun H locs hP hS => ?_)
            obtain ⟨en2, he2⟩ : ∃ z, z = va_up ew17 59 (.inl (cA 0, 24, .inl (upd (fun k => xI (G k)) q (xI (sp_dg z2 q))))) := ⟨_, rfl⟩
            have hP : va_P D vwCl (xw n ad en2) H := by rw [he2]; exact hP
            have hM : MW cA ad en2 (mO M.built M.builtMany M.told M.toldMany M.row M.rowMany (sp_up G q (sp_dg z2 q)) M.partText M.partFrom M.partMany M.parts M.cut M.cutMany M.isCut M.cutGives M.cutAt M.h) := by rw [he2]; exact hM.u_figures q (sp_dg z2 q)
            have ho : xO 53 68 en en2 := by rw [he2]; exact ho.up (by omega) (by omega)
            refine lv_lload hx hb dX5_number_61 (lv_at hl 4 rfl) ?_
            refine x_ldc2 hx hb hown (hts _ u_ko_RX5_97) (k := 10) (by decide +kernel) dX5_number_63 ?_
            refine x_ldiv hx hb dX5_number_66 (sp_q_r hz2 q) ?_
            refine lv_lstore (lv' := [(4, .long (xL (sp_q z2 (q + 1)))), (7, .int (xI (Int.tmod (sp_q z2 q) 10))), (0, .ref (ad 53)), (1, .int (xI (b1 : Int))), (2, .long (xL z2)), (6, .int (xI (q : Int)))]) hx hb dX5_number_67 hl (by decide) rfl (fun ls hl => ?_)
            refine x_iinc (lv' := [(6, .int (xI ((q : Int) + 1))), (4, .long (xL (sp_q z2 (q + 1)))), (7, .int (xI (Int.tmod (sp_q z2 q) 10))), (0, .ref (ad 53)), (1, .int (xI (b1 : Int))), (2, .long (xL z2))]) (k := 5) hx hb dX5_number_69 hl rfl (by decide) rfl (fun ls hl => ?_)
            refine lv_goto (tgt := 17) hx hb dX5_number_72 (by decide) ?_
            exact ih (q + 1) _ en2 _ _ (by omega) ((sp_ln_t (by omega) (by omega)).symm.trans hL) (fun t ht => by
      by_cases q1 : t = q
      · rw [q1, sp_up_s]
      · rw [sp_up_n _ _ (by omega)]; exact hG t (by omega)) (by omega) hM ho hP hS ls (lv_sub hl [3, 4, 5, 1, 0] rfl)
        · have c_21 := xcmp_eq.mp c_21
          refine lv_iload hx hb dX5_number_24 (lv_at hl 4 rfl) ?_
          refine x_if_ne (tgt := 75) hx hb dX5_number_26 (by decide) (by omega) (fun c_26 => ?_) (fun c_26 => ?_)
          · have hE : q = sp_len z2 := by rw [← hL]; exact Or.elim (show q < 19 ∨ 19 ≤ q by omega) (fun w => (sp_ln_f w (by omega)).symm) (fun w => (sp_ln_e w).symm)
            have hnn : sp_nn z2 ≤ sp_len z2 + 1 := by unfold sp_nn; split <;> omega
            refine lv_aload_n hx hb dX5_number_75 rfl (lv_at hl 0 rfl) ?_
            refine x_iconst hx hb dX5_number_76 ?_
            refine x_put (T := TX5) (N := 17) (ty := .int) hx hb hts uX5 tyX5 tyX5_ok nmX5 hown hK hP hD hS (i := 53) (by omega) (show ew17 53 = .inr (5, [.ref (ad 54), .ref (ad 55), .ref (ad 56), .ref (ad 57), .ref (ad 58), .int (xI M.rowMany), .ref (ad 59), .ref (ad 60), .ref (ad 61), .ref (ad 62), .int (xI M.parts), .ref (ad 63), .ref (ad 64), .ref (ad 65), .ref (ad 66), .ref (ad 67), .long M.h]) from hM.1) rfl 5 (by decide) u_fl_RX5_62 rfl (by decide +kernel) rfl rfl (by show 5 < 17; decide) dX5_number_77 (fun H locs hP hS => ?_)
            obtain ⟨en3, he3⟩ : ∃ z, z = va_up ew17 53 (.inr (5, [.ref (ad 54), .ref (ad 55), .ref (ad 56), .ref (ad 57), .ref (ad 58), .int (xI 0), .ref (ad 59), .ref (ad 60), .ref (ad 61), .ref (ad 62), .int (xI M.parts), .ref (ad 63), .ref (ad 64), .ref (ad 65), .ref (ad 66), .ref (ad 67), .long M.h])) := ⟨_, rfl⟩
            have hP : va_P D vwCl (xw n ad en3) H := by rw [he3]; exact hP
            have hM : MW cA ad en3 (mO M.built M.builtMany M.told M.toldMany M.row 0 G M.partText M.partFrom M.partMany M.parts M.cut M.cutMany M.isCut M.cutGives M.cutAt M.h) := by rw [he3]; exact hM.s_rowMany 0
            have ho : xO 53 68 en en3 := by rw [he3]; exact ho.up (by omega) (by omega)
            refine lv_lload_n hx hb dX5_number_80 rfl (lv_at hl 2 rfl) ?_
            refine lv_lconst (v := xL 0) hx hb dX5_number_81 (by decide +kernel) ?_
            refine x_lcmp hx hb dX5_number_82 (by omega) ?_
            refine x_if_ge (tgt := 92) hx hb dX5_number_83 (by decide) (xcmp_r _ _) (fun c_83 => ?_) (fun c_83 => ?_)
            · have c_83 := xcmp_ge.mp c_83
              refine lv_iload hx hb dX5_number_92 (lv_at hl 4 rfl) ?_
              refine x_iconst hx hb dX5_number_94 ?_
              refine x_isub hx hb dX5_number_95 ?_
              refine lv_istore (lv' := [(7, .int (xI ((q : Int) - 1))), (0, .ref (ad 53)), (1, .int (xI (b1 : Int))), (2, .long (xL z2)), (4, .long (xL (sp_q z2 q))), (6, .int (xI (q : Int)))]) hx hb dX5_number_96 hl (by decide) rfl (fun ls hl => ?_)
              have L98 : ∀ (nn : Nat) (K : Int) (R : Nat) (F : Nat → Int) (ew98 : Nat → va_E) (H : Heap) (locs : List Loc), (-1 ≤ K ∧ K ≤ (q : Int) - 1 ∧ (R : Int) + (K + 1) = (sp_nn z2 : Int)) → (∀ t : Nat, t < R → F t = sp_nf z2 t) → ((K + 1).toNat) < nn → (MW cA ad ew98 (mO M.built M.builtMany M.told M.toldMany F (R : Int) G M.partText M.partFrom M.partMany M.parts M.cut M.cutMany M.isCut M.cutGives M.cutAt M.h)) → (xO 53 68 en ew98) → va_P D vwCl (xw n ad ew98) H → va_S (xA n ad sz) s.heap H locs → ∀ ls : Array Slot, lv_has ls 8 [(0, .ref (ad 53)), (1, .int (xI (b1 : Int))), (2, .long (xL z2)), (7, .int (xI K))] → W p l e (xrm 2 48) s mm args below meth c H locs 0 0 (MQ below (va_Qi (fun r u => r = xI (am_number S (b1 : Int) z2).1 ∧ ∃ M' : MO, MW cA ad u M' ∧ MR (am_number S (b1 : Int) z2).2 M' ∧ xO 53 68 en u) (xE D n ad) (xA n ad sz)) args s 0 0 (xA n ad sz)) (F0 mm 98 ls []) := by
                intro nn
                induction nn with
                | zero =>
                  intro K R F ew98 H locs hk8 hF hmm hM ho hP hS ls hl
                  exact absurd hmm (Nat.not_lt_zero _)
                | succ nn ih =>
                  intro K R F ew98 H locs hk8 hF hmm hM ho hP hS ls hl
                  refine lv_iload hx hb dX5_number_98 (lv_at hl 3 rfl) ?_
                  refine x_if_lt (tgt := 135) hx hb dX5_number_100 (by decide) (by omega) (fun c_100 => ?_) (fun c_100 => ?_)
                  · refine lv_aload_n hx hb dX5_number_135 rfl (lv_at hl 0 rfl) ?_
                    refine lv_iload_n hx hb dX5_number_136 rfl (lv_at hl 1 rfl) ?_
                    refine xm_i (i := 53) (As := [.int (xI (b1 : Int))]) (rest := []) ⟨hx, hb, hml, hown, hts⟩ hl.1 (c_X5_append l D cA n ad ew98 _ hn hM b1 h_b1 (S.1 b1).1 hz_b1 hm_b1 (sp_nn z2) (show (R : Int) = (((sp_nn z2) : Nat) : Int) from by omega) (by omega)) k_X5_append u_ml_RX5_81 hK hN hP (by omega) (show ew98 53 = .inr (5, [.ref (ad 54), .ref (ad 55), .ref (ad 56), .ref (ad 57), .ref (ad 58), .int (xI (R : Int)), .ref (ad 59), .ref (ad 60), .ref (ad 61), .ref (ad 62), .int (xI M.parts), .ref (ad 63), .ref (ad 64), .ref (ad 65), .ref (ad 66), .ref (ad 67), .long M.h]) from hM.1) rfl rfl rfl rfl (Nat.le_of_ble_eq_true rfl) ⟨Nat.le_of_ble_eq_true rfl, Nat.le_of_ble_eq_true rfl⟩ ⟨Nat.le_of_ble_eq_true rfl, Nat.le_of_ble_eq_true rfl⟩ dX5_number_137 hD hS hA (fun r4 en4 H locs hp4 hP hS => ?_)
                    rcases hp4 with ⟨hfu, hrv, hu⟩ | ⟨hfu, z7, F7, hrv, hz7, hF7, hG7, hM, ho2⟩
                    · subst hrv
                      rw [hu] at hP
                      exact xe_i hx hb hrt hlocks hP hS ((by unfold am_number; simp only [Int.toNat_natCast]; rw [sp_if_f (by omega)]; have q9 := m_full hR (b := b1) (a := (S.1 b1).1) (d := (S.1 b1).1) (k9 := (sp_nn z2)) (r0 := ((sp_nn z2, sp_nf z2) : xRow)) (by omega) (by omega) (by first | rfl | omega | (dsimp only; omega)) hfu; exact ⟨q9.1, _, hM, q9.2, ho⟩)) dX5_number_140
                    · subst hrv
                      have ho := ho.tr ho2
                      have hM : MW cA ad en4 (mO F7 (sp_up M.builtMany b1 z7) M.told M.toldMany F (R : Int) G M.partText M.partFrom M.partMany M.parts M.cut M.cutMany M.isCut M.cutGives M.cutAt M.h) := hM
                      exact xe_i hx hb hrt hlocks hP hS ((by unfold am_number; simp only [Int.toNat_natCast]; rw [sp_if_f (by omega)]; have q9 := m_edt hR hW h_b1 (a := (S.1 b1).1) (d := (S.1 b1).1) (k9 := (sp_nn z2)) (r0 := ((sp_nn z2, sp_nf z2) : xRow)) (by omega) (by omega) (by first | rfl | omega | (dsimp only; omega)) hfu hz7 hF7 hG7 (fun k hk => hF k (by omega)); exact ⟨q9.1, _, hM, q9.2, ho⟩)) dX5_number_140
                  · have hdg := sp_dg_b z2 (Int.toNat K)
                    refine lv_aload_n hx hb dX5_number_103 rfl (lv_at hl 0 rfl) ?_
                    refine x_get (T := TX5) (N := 17) hx hb hts uX5 hown hK hP (i := 53) (by omega) (show ew98 53 = .inr (5, [.ref (ad 54), .ref (ad 55), .ref (ad 56), .ref (ad 57), .ref (ad 58), .int (xI (R : Int)), .ref (ad 59), .ref (ad 60), .ref (ad 61), .ref (ad 62), .int (xI M.parts), .ref (ad 63), .ref (ad 64), .ref (ad 65), .ref (ad 66), .ref (ad 67), .long M.h]) from hM.1) rfl 4 (by decide) u_fl_RX5_22 rfl dX5_number_104 ?_
                    refine lv_aload_n hx hb dX5_number_107 rfl (lv_at hl 0 rfl) ?_
                    refine x_get (T := TX5) (N := 17) hx hb hts uX5 hown hK hP (i := 53) (by omega) (show ew98 53 = .inr (5, [.ref (ad 54), .ref (ad 55), .ref (ad 56), .ref (ad 57), .ref (ad 58), .int (xI (R : Int)), .ref (ad 59), .ref (ad 60), .ref (ad 61), .ref (ad 62), .int (xI M.parts), .ref (ad 63), .ref (ad 64), .ref (ad 65), .ref (ad 66), .ref (ad 67), .long M.h]) from hM.1) rfl 5 (by decide) u_fl_RX5_62 rfl dX5_number_108 ?_
                    refine lv_aload_n hx hb dX5_number_111 rfl (lv_at hl 0 rfl) ?_
                    refine x_get (T := TX5) (N := 17) hx hb hts uX5 hown hK hP (i := 53) (by omega) (show ew98 53 = .inr (5, [.ref (ad 54), .ref (ad 55), .ref (ad 56), .ref (ad 57), .ref (ad 58), .int (xI (R : Int)), .ref (ad 59), .ref (ad 60), .ref (ad 61), .ref (ad 62), .int (xI M.parts), .ref (ad 63), .ref (ad 64), .ref (ad 65), .ref (ad 66), .ref (ad 67), .long M.h]) from hM.1) rfl 6 (by decide) u_fl_RX5_25 rfl dX5_number_112 ?_
                    refine lv_iload hx hb dX5_number_115 (lv_at hl 3 rfl) ?_
                    refine x_ild hx hb hK hP (i := 59) (by omega) hM.2.2.2.2.2.2.1 (x := G (Int.toNat K)) (by omega) (rfl) dX5_number_117 ?_
                    refine x_to (sp_dg z2 (Int.toNat K)) (hG _ (by omega)) ?_
                    refine x_ist hx hb hK hP hD hS (i := 58) (by omega) hM.2.2.2.2.2.1 (by omega) dX5_number_118 (fun H locs hP hS => ?_)
                    obtain ⟨en5, he5⟩ : ∃ z, z = va_up ew98 58 (.inl (cA 0, 220, .inl (upd (fun k => xI (F k)) R (xI (sp_dg z2 (Int.toNat K)))))) := ⟨_, rfl⟩
                    have hP : va_P D vwCl (xw n ad en5) H := by rw [he5]; exact hP
                    have hM : MW cA ad en5 (mO M.built M.builtMany M.told M.toldMany (sp_up F R (sp_dg z2 (Int.toNat K))) (R : Int) G M.partText M.partFrom M.partMany M.parts M.cut M.cutMany M.isCut M.cutGives M.cutAt M.h) := by rw [he5]; exact hM.u_row R (sp_dg z2 (Int.toNat K))
                    have ho : xO 53 68 en en5 := by rw [he5]; exact ho.up (by omega) (by omega)
                    refine lv_aload_n hx hb dX5_number_119 rfl (lv_at hl 0 rfl) ?_
                    refine lv_dup hx hb dX5_number_120 rfl ?_
                    refine x_get (T := TX5) (N := 17) hx hb hts uX5 hown hK hP (i := 53) (by omega) (show en5 53 = .inr (5, [.ref (ad 54), .ref (ad 55), .ref (ad 56), .ref (ad 57), .ref (ad 58), .int (xI (R : Int)), .ref (ad 59), .ref (ad 60), .ref (ad 61), .ref (ad 62), .int (xI M.parts), .ref (ad 63), .ref (ad 64), .ref (ad 65), .ref (ad 66), .ref (ad 67), .long M.h]) from hM.1) rfl 5 (by decide) u_fl_RX5_62 rfl dX5_number_121 ?_
                    refine x_iconst hx hb dX5_number_124 ?_
                    refine x_iadd hx hb dX5_number_125 ?_
                    refine x_put (T := TX5) (N := 17) (ty := .int) hx hb hts uX5 tyX5 tyX5_ok nmX5 hown hK hP hD hS (i := 53) (by omega) (show en5 53 = .inr (5, [.ref (ad 54), .ref (ad 55), .ref (ad 56), .ref (ad 57), .ref (ad 58), .int (xI (R : Int)), .ref (ad 59), .ref (ad 60), .ref (ad 61), .ref (ad 62), .int (xI M.parts), .ref (ad 63), .ref (ad 64), .ref (ad 65), .ref (ad 66), .ref (ad 67), .long M.h]) from hM.1) rfl 5 (by decide) u_fl_RX5_62 rfl (by decide +kernel) rfl rfl (by show 5 < 17; decide) dX5_number_126 (fun H locs hP hS => ?_)
                    obtain ⟨en6, he6⟩ : ∃ z, z = va_up en5 53 (.inr (5, [.ref (ad 54), .ref (ad 55), .ref (ad 56), .ref (ad 57), .ref (ad 58), .int (xI ((R : Int) + 1)), .ref (ad 59), .ref (ad 60), .ref (ad 61), .ref (ad 62), .int (xI M.parts), .ref (ad 63), .ref (ad 64), .ref (ad 65), .ref (ad 66), .ref (ad 67), .long M.h])) := ⟨_, rfl⟩
                    have hP : va_P D vwCl (xw n ad en6) H := by rw [he6]; exact hP
                    have hM : MW cA ad en6 (mO M.built M.builtMany M.told M.toldMany (sp_up F R (sp_dg z2 (Int.toNat K))) ((R : Int) + 1) G M.partText M.partFrom M.partMany M.parts M.cut M.cutMany M.isCut M.cutGives M.cutAt M.h) := by rw [he6]; exact hM.s_rowMany ((R : Int) + 1)
                    have ho : xO 53 68 en en6 := by rw [he6]; exact ho.up (by omega) (by omega)
                    refine x_iinc (lv' := [(7, .int (xI (K + (-1)))), (0, .ref (ad 53)), (1, .int (xI (b1 : Int))), (2, .long (xL z2))]) (k := 3) hx hb dX5_number_129 hl rfl (by decide) rfl (fun ls hl => ?_)
                    refine lv_goto (tgt := 98) hx hb dX5_number_132 (by decide) ?_
                    exact ih (K - 1) (R + 1) (sp_up F R (sp_dg z2 (Int.toNat K))) en6 _ _ (by omega) (fun t ht => by
      by_cases q1 : t = R
      · rw [q1, sp_up_s]
        unfold sp_nf
        have hno : ¬ (z2 < 0 ∧ R = 0) := fun w => by have w3 := sp_nn_n w.1; omega
        rw [if_neg hno, show sp_nn z2 - 1 - R = Int.toNat K by omega]
      · rw [sp_up_n _ _ q1]; exact hF t (by omega)) (by omega) (by rw [show ((R + 1 : Nat) : Int) = (R : Int) + 1 by omega]; exact hM) ho hP hS ls (lv_sub hl [1, 2, 3, 0] rfl)
              exact L98 _ _ 0 M.row en3 _ _ (by have w3 := sp_nn_p (z := z2) (by omega); omega) (fun t ht => absurd ht (Nat.not_lt_zero _)) (Nat.lt_succ_self _) hM ho hP hS ls (lv_sub hl [1, 2, 3, 0] rfl)
            · have c_83 := xcmp_lt.mp c_83
              refine lv_aload_n hx hb dX5_number_86 rfl (lv_at hl 0 rfl) ?_
              refine x_bipush hx hb dX5_number_87 (by decide +kernel) ?_
              refine xm_v (i := 53) (As := [.int (xI 45)]) (rest := []) ⟨hx, hb, hml, hown, hts⟩ hl.1 (c_X5_laySign l D cA n ad en3 _ hn hM 45) k_X5_laySign u_ml_RX5_77 hK hN hP (by omega) (show en3 53 = .inr (5, [.ref (ad 54), .ref (ad 55), .ref (ad 56), .ref (ad 57), .ref (ad 58), .int (xI 0), .ref (ad 59), .ref (ad 60), .ref (ad 61), .ref (ad 62), .int (xI M.parts), .ref (ad 63), .ref (ad 64), .ref (ad 65), .ref (ad 66), .ref (ad 67), .long M.h]) from hM.1) rfl rfl rfl rfl (Nat.le_of_ble_eq_true rfl) ⟨Nat.le_of_ble_eq_true rfl, Nat.le_of_ble_eq_true rfl⟩ ⟨Nat.le_of_ble_eq_true rfl, Nat.le_of_ble_eq_true rfl⟩ dX5_number_89 hD hS hA (fun en7 H locs hp7 hP hS => ?_)
              obtain ⟨hM, ho2⟩ := hp7
              have hM : MW cA ad en7 (mO M.built M.builtMany M.told M.toldMany (sp_up M.row 0 45) 1 G M.partText M.partFrom M.partMany M.parts M.cut M.cutMany M.isCut M.cutGives M.cutAt M.h) := hM
              have ho := ho.tr ho2
              refine lv_iload hx hb dX5_number_92 (lv_at hl 4 rfl) ?_
              refine x_iconst hx hb dX5_number_94 ?_
              refine x_isub hx hb dX5_number_95 ?_
              refine lv_istore (lv' := [(7, .int (xI ((q : Int) - 1))), (0, .ref (ad 53)), (1, .int (xI (b1 : Int))), (2, .long (xL z2)), (4, .long (xL (sp_q z2 q))), (6, .int (xI (q : Int)))]) hx hb dX5_number_96 hl (by decide) rfl (fun ls hl => ?_)
              have L98 : ∀ (nn : Nat) (K : Int) (R : Nat) (F : Nat → Int) (ew98 : Nat → va_E) (H : Heap) (locs : List Loc), (-1 ≤ K ∧ K ≤ (q : Int) - 1 ∧ (R : Int) + (K + 1) = (sp_nn z2 : Int)) → (∀ t : Nat, t < R → F t = sp_nf z2 t) → ((K + 1).toNat) < nn → (MW cA ad ew98 (mO M.built M.builtMany M.told M.toldMany F (R : Int) G M.partText M.partFrom M.partMany M.parts M.cut M.cutMany M.isCut M.cutGives M.cutAt M.h)) → (xO 53 68 en ew98) → va_P D vwCl (xw n ad ew98) H → va_S (xA n ad sz) s.heap H locs → ∀ ls : Array Slot, lv_has ls 8 [(0, .ref (ad 53)), (1, .int (xI (b1 : Int))), (2, .long (xL z2)), (7, .int (xI K))] → W p l e (xrm 2 48) s mm args below meth c H locs 0 0 (MQ below (va_Qi (fun r u => r = xI (am_number S (b1 : Int) z2).1 ∧ ∃ M' : MO, MW cA ad u M' ∧ MR (am_number S (b1 : Int) z2).2 M' ∧ xO 53 68 en u) (xE D n ad) (xA n ad sz)) args s 0 0 (xA n ad sz)) (F0 mm 98 ls []) := by
                intro nn
                induction nn with
                | zero =>
                  intro K R F ew98 H locs hk8 hF hmm hM ho hP hS ls hl
                  exact absurd hmm (Nat.not_lt_zero _)
                | succ nn ih =>
                  intro K R F ew98 H locs hk8 hF hmm hM ho hP hS ls hl
                  refine lv_iload hx hb dX5_number_98 (lv_at hl 3 rfl) ?_
                  refine x_if_lt (tgt := 135) hx hb dX5_number_100 (by decide) (by omega) (fun c_100 => ?_) (fun c_100 => ?_)
                  · refine lv_aload_n hx hb dX5_number_135 rfl (lv_at hl 0 rfl) ?_
                    refine lv_iload_n hx hb dX5_number_136 rfl (lv_at hl 1 rfl) ?_
                    refine xm_i (i := 53) (As := [.int (xI (b1 : Int))]) (rest := []) ⟨hx, hb, hml, hown, hts⟩ hl.1 (c_X5_append l D cA n ad ew98 _ hn hM b1 h_b1 (S.1 b1).1 hz_b1 hm_b1 (sp_nn z2) (show (R : Int) = (((sp_nn z2) : Nat) : Int) from by omega) (by omega)) k_X5_append u_ml_RX5_81 hK hN hP (by omega) (show ew98 53 = .inr (5, [.ref (ad 54), .ref (ad 55), .ref (ad 56), .ref (ad 57), .ref (ad 58), .int (xI (R : Int)), .ref (ad 59), .ref (ad 60), .ref (ad 61), .ref (ad 62), .int (xI M.parts), .ref (ad 63), .ref (ad 64), .ref (ad 65), .ref (ad 66), .ref (ad 67), .long M.h]) from hM.1) rfl rfl rfl rfl (Nat.le_of_ble_eq_true rfl) ⟨Nat.le_of_ble_eq_true rfl, Nat.le_of_ble_eq_true rfl⟩ ⟨Nat.le_of_ble_eq_true rfl, Nat.le_of_ble_eq_true rfl⟩ dX5_number_137 hD hS hA (fun r8 en8 H locs hp8 hP hS => ?_)
                    rcases hp8 with ⟨hfu, hrv, hu⟩ | ⟨hfu, z7, F7, hrv, hz7, hF7, hG7, hM, ho2⟩
                    · subst hrv
                      rw [hu] at hP
                      exact xe_i hx hb hrt hlocks hP hS ((by unfold am_number; simp only [Int.toNat_natCast]; rw [sp_if_f (by omega)]; have q9 := m_full hR (b := b1) (a := (S.1 b1).1) (d := (S.1 b1).1) (k9 := (sp_nn z2)) (r0 := ((sp_nn z2, sp_nf z2) : xRow)) (by omega) (by omega) (by first | rfl | omega | (dsimp only; omega)) hfu; exact ⟨q9.1, _, hM, q9.2, ho⟩)) dX5_number_140
                    · subst hrv
                      have ho := ho.tr ho2
                      have hM : MW cA ad en8 (mO F7 (sp_up M.builtMany b1 z7) M.told M.toldMany F (R : Int) G M.partText M.partFrom M.partMany M.parts M.cut M.cutMany M.isCut M.cutGives M.cutAt M.h) := hM
                      exact xe_i hx hb hrt hlocks hP hS ((by unfold am_number; simp only [Int.toNat_natCast]; rw [sp_if_f (by omega)]; have q9 := m_edt hR hW h_b1 (a := (S.1 b1).1) (d := (S.1 b1).1) (k9 := (sp_nn z2)) (r0 := ((sp_nn z2, sp_nf z2) : xRow)) (by omega) (by omega) (by first | rfl | omega | (dsimp only; omega)) hfu hz7 hF7 hG7 (fun k hk => hF k (by omega)); exact ⟨q9.1, _, hM, q9.2, ho⟩)) dX5_number_140
                  · have hdg := sp_dg_b z2 (Int.toNat K)
                    refine lv_aload_n hx hb dX5_number_103 rfl (lv_at hl 0 rfl) ?_
                    refine x_get (T := TX5) (N := 17) hx hb hts uX5 hown hK hP (i := 53) (by omega) (show ew98 53 = .inr (5, [.ref (ad 54), .ref (ad 55), .ref (ad 56), .ref (ad 57), .ref (ad 58), .int (xI (R : Int)), .ref (ad 59), .ref (ad 60), .ref (ad 61), .ref (ad 62), .int (xI M.parts), .ref (ad 63), .ref (ad 64), .ref (ad 65), .ref (ad 66), .ref (ad 67), .long M.h]) from hM.1) rfl 4 (by decide) u_fl_RX5_22 rfl dX5_number_104 ?_
                    refine lv_aload_n hx hb dX5_number_107 rfl (lv_at hl 0 rfl) ?_
                    refine x_get (T := TX5) (N := 17) hx hb hts uX5 hown hK hP (i := 53) (by omega) (show ew98 53 = .inr (5, [.ref (ad 54), .ref (ad 55), .ref (ad 56), .ref (ad 57), .ref (ad 58), .int (xI (R : Int)), .ref (ad 59), .ref (ad 60), .ref (ad 61), .ref (ad 62), .int (xI M.parts), .ref (ad 63), .ref (ad 64), .ref (ad 65), .ref (ad 66), .ref (ad 67), .long M.h]) from hM.1) rfl 5 (by decide) u_fl_RX5_62 rfl dX5_number_108 ?_
                    refine lv_aload_n hx hb dX5_number_111 rfl (lv_at hl 0 rfl) ?_
                    refine x_get (T := TX5) (N := 17) hx hb hts uX5 hown hK hP (i := 53) (by omega) (show ew98 53 = .inr (5, [.ref (ad 54), .ref (ad 55), .ref (ad 56), .ref (ad 57), .ref (ad 58), .int (xI (R : Int)), .ref (ad 59), .ref (ad 60), .ref (ad 61), .ref (ad 62), .int (xI M.parts), .ref (ad 63), .ref (ad 64), .ref (ad 65), .ref (ad 66), .ref (ad 67), .long M.h]) from hM.1) rfl 6 (by decide) u_fl_RX5_25 rfl dX5_number_112 ?_
                    refine lv_iload hx hb dX5_number_115 (lv_at hl 3 rfl) ?_
                    refine x_ild hx hb hK hP (i := 59) (by omega) hM.2.2.2.2.2.2.1 (x := G (Int.toNat K)) (by omega) (rfl) dX5_number_117 ?_
                    refine x_to (sp_dg z2 (Int.toNat K)) (hG _ (by omega)) ?_
                    refine x_ist hx hb hK hP hD hS (i := 58) (by omega) hM.2.2.2.2.2.1 (by omega) dX5_number_118 (fun H locs hP hS => ?_)
                    obtain ⟨en9, he9⟩ : ∃ z, z = va_up ew98 58 (.inl (cA 0, 220, .inl (upd (fun k => xI (F k)) R (xI (sp_dg z2 (Int.toNat K)))))) := ⟨_, rfl⟩
                    have hP : va_P D vwCl (xw n ad en9) H := by rw [he9]; exact hP
                    have hM : MW cA ad en9 (mO M.built M.builtMany M.told M.toldMany (sp_up F R (sp_dg z2 (Int.toNat K))) (R : Int) G M.partText M.partFrom M.partMany M.parts M.cut M.cutMany M.isCut M.cutGives M.cutAt M.h) := by rw [he9]; exact hM.u_row R (sp_dg z2 (Int.toNat K))
                    have ho : xO 53 68 en en9 := by rw [he9]; exact ho.up (by omega) (by omega)
                    refine lv_aload_n hx hb dX5_number_119 rfl (lv_at hl 0 rfl) ?_
                    refine lv_dup hx hb dX5_number_120 rfl ?_
                    refine x_get (T := TX5) (N := 17) hx hb hts uX5 hown hK hP (i := 53) (by omega) (show en9 53 = .inr (5, [.ref (ad 54), .ref (ad 55), .ref (ad 56), .ref (ad 57), .ref (ad 58), .int (xI (R : Int)), .ref (ad 59), .ref (ad 60), .ref (ad 61), .ref (ad 62), .int (xI M.parts), .ref (ad 63), .ref (ad 64), .ref (ad 65), .ref (ad 66), .ref (ad 67), .long M.h]) from hM.1) rfl 5 (by decide) u_fl_RX5_62 rfl dX5_number_121 ?_
                    refine x_iconst hx hb dX5_number_124 ?_
                    refine x_iadd hx hb dX5_number_125 ?_
                    refine x_put (T := TX5) (N := 17) (ty := .int) hx hb hts uX5 tyX5 tyX5_ok nmX5 hown hK hP hD hS (i := 53) (by omega) (show en9 53 = .inr (5, [.ref (ad 54), .ref (ad 55), .ref (ad 56), .ref (ad 57), .ref (ad 58), .int (xI (R : Int)), .ref (ad 59), .ref (ad 60), .ref (ad 61), .ref (ad 62), .int (xI M.parts), .ref (ad 63), .ref (ad 64), .ref (ad 65), .ref (ad 66), .ref (ad 67), .long M.h]) from hM.1) rfl 5 (by decide) u_fl_RX5_62 rfl (by decide +kernel) rfl rfl (by show 5 < 17; decide) dX5_number_126 (fun H locs hP hS => ?_)
                    obtain ⟨en10, he10⟩ : ∃ z, z = va_up en9 53 (.inr (5, [.ref (ad 54), .ref (ad 55), .ref (ad 56), .ref (ad 57), .ref (ad 58), .int (xI ((R : Int) + 1)), .ref (ad 59), .ref (ad 60), .ref (ad 61), .ref (ad 62), .int (xI M.parts), .ref (ad 63), .ref (ad 64), .ref (ad 65), .ref (ad 66), .ref (ad 67), .long M.h])) := ⟨_, rfl⟩
                    have hP : va_P D vwCl (xw n ad en10) H := by rw [he10]; exact hP
                    have hM : MW cA ad en10 (mO M.built M.builtMany M.told M.toldMany (sp_up F R (sp_dg z2 (Int.toNat K))) ((R : Int) + 1) G M.partText M.partFrom M.partMany M.parts M.cut M.cutMany M.isCut M.cutGives M.cutAt M.h) := by rw [he10]; exact hM.s_rowMany ((R : Int) + 1)
                    have ho : xO 53 68 en en10 := by rw [he10]; exact ho.up (by omega) (by omega)
                    refine x_iinc (lv' := [(7, .int (xI (K + (-1)))), (0, .ref (ad 53)), (1, .int (xI (b1 : Int))), (2, .long (xL z2))]) (k := 3) hx hb dX5_number_129 hl rfl (by decide) rfl (fun ls hl => ?_)
                    refine lv_goto (tgt := 98) hx hb dX5_number_132 (by decide) ?_
                    exact ih (K - 1) (R + 1) (sp_up F R (sp_dg z2 (Int.toNat K))) en10 _ _ (by omega) (fun t ht => by
      by_cases q1 : t = R
      · rw [q1, sp_up_s]
        unfold sp_nf
        have hno : ¬ (z2 < 0 ∧ R = 0) := fun w => by have w3 := sp_nn_n w.1; omega
        rw [if_neg hno, show sp_nn z2 - 1 - R = Int.toNat K by omega]
      · rw [sp_up_n _ _ q1]; exact hF t (by omega)) (by omega) (by rw [show ((R + 1 : Nat) : Int) = (R : Int) + 1 by omega]; exact hM) ho hP hS ls (lv_sub hl [1, 2, 3, 0] rfl)
              exact L98 _ _ 1 (sp_up M.row 0 45) en7 _ _ (by have w3 := sp_nn_n (z := z2) (by omega); omega) (fun t ht => by rw [show t = 0 by omega, sp_up_s]; unfold sp_nf; rw [if_pos ⟨by omega, rfl⟩]) (Nat.lt_succ_self _) hM ho hP hS ls (lv_sub hl [1, 2, 3, 0] rfl)
          · have htm := sp_tm (sp_q z2 q)
            have hq9 : q < 19 := by omega
            refine lv_lload hx hb dX5_number_29 (lv_at hl 3 rfl) ?_
            refine x_ldc2 hx hb hown (hts _ u_ko_RX5_97) (k := 10) (by decide +kernel) dX5_number_31 ?_
            refine x_lrem hx hb dX5_number_34 (sp_q_r hz2 q) ?_
            refine x_l2i hx hb dX5_number_35 ?_
            refine lv_istore (lv' := [(7, .int (xI (Int.tmod (sp_q z2 q) 10))), (0, .ref (ad 53)), (1, .int (xI (b1 : Int))), (2, .long (xL z2)), (4, .long (xL (sp_q z2 q))), (6, .int (xI (q : Int)))]) hx hb dX5_number_36 hl (by decide) rfl (fun ls hl => ?_)
            refine lv_aload_n hx hb dX5_number_38 rfl (lv_at hl 1 rfl) ?_
            refine x_get (T := TX5) (N := 17) hx hb hts uX5 hown hK hP (i := 53) (by omega) (show ew17 53 = .inr (5, [.ref (ad 54), .ref (ad 55), .ref (ad 56), .ref (ad 57), .ref (ad 58), .int (xI M.rowMany), .ref (ad 59), .ref (ad 60), .ref (ad 61), .ref (ad 62), .int (xI M.parts), .ref (ad 63), .ref (ad 64), .ref (ad 65), .ref (ad 66), .ref (ad 67), .long M.h]) from hM.1) rfl 6 (by decide) u_fl_RX5_25 rfl dX5_number_39 ?_
            refine lv_iload hx hb dX5_number_42 (lv_at hl 5 rfl) ?_
            refine x_bipush hx hb dX5_number_44 (by decide +kernel) ?_
            refine lv_iload hx hb dX5_number_46 (lv_at hl 0 rfl) ?_
            refine x_if_ge (tgt := 57) hx hb dX5_number_48 (by decide) (by omega) (fun c_48 => ?_) (fun c_48 => ?_)
            · refine lv_iload hx hb dX5_number_57 (lv_at hl 0 rfl) ?_
              refine x_iadd hx hb dX5_number_59 ?_
              refine x_to (sp_dg z2 q) (by unfold sp_dg; rw [if_pos (by omega)]) ?_
              refine x_ist hx hb hK hP hD hS (i := 59) (by omega) hM.2.2.2.2.2.2.1 (by omega) dX5_number_60 (fun H locs hP hS => ?_)
              obtain ⟨en11, he11⟩ : ∃ z, z = va_up ew17 59 (.inl (cA 0, 24, .inl (upd (fun k => xI (G k)) q (xI (sp_dg z2 q))))) := ⟨_, rfl⟩
              have hP : va_P D vwCl (xw n ad en11) H := by rw [he11]; exact hP
              have hM : MW cA ad en11 (mO M.built M.builtMany M.told M.toldMany M.row M.rowMany (sp_up G q (sp_dg z2 q)) M.partText M.partFrom M.partMany M.parts M.cut M.cutMany M.isCut M.cutGives M.cutAt M.h) := by rw [he11]; exact hM.u_figures q (sp_dg z2 q)
              have ho : xO 53 68 en en11 := by rw [he11]; exact ho.up (by omega) (by omega)
              refine lv_lload hx hb dX5_number_61 (lv_at hl 4 rfl) ?_
              refine x_ldc2 hx hb hown (hts _ u_ko_RX5_97) (k := 10) (by decide +kernel) dX5_number_63 ?_
              refine x_ldiv hx hb dX5_number_66 (sp_q_r hz2 q) ?_
              refine lv_lstore (lv' := [(4, .long (xL (sp_q z2 (q + 1)))), (7, .int (xI (Int.tmod (sp_q z2 q) 10))), (0, .ref (ad 53)), (1, .int (xI (b1 : Int))), (2, .long (xL z2)), (6, .int (xI (q : Int)))]) hx hb dX5_number_67 hl (by decide) rfl (fun ls hl => ?_)
              refine x_iinc (lv' := [(6, .int (xI ((q : Int) + 1))), (4, .long (xL (sp_q z2 (q + 1)))), (7, .int (xI (Int.tmod (sp_q z2 q) 10))), (0, .ref (ad 53)), (1, .int (xI (b1 : Int))), (2, .long (xL z2))]) (k := 5) hx hb dX5_number_69 hl rfl (by decide) rfl (fun ls hl => ?_)
              refine lv_goto (tgt := 17) hx hb dX5_number_72 (by decide) ?_
              exact ih (q + 1) _ en11 _ _ (by omega) ((sp_ln_t (by omega) (by omega)).symm.trans hL) (fun t ht => by
      by_cases q1 : t = q
      · rw [q1, sp_up_s]
      · rw [sp_up_n _ _ (by omega)]; exact hG t (by omega)) (by omega) hM ho hP hS ls (lv_sub hl [3, 4, 5, 1, 0] rfl)
            · refine lv_iload hx hb dX5_number_51 (lv_at hl 0 rfl) ?_
              refine x_ineg hx hb dX5_number_53 ?_
              refine lv_goto (tgt := 59) hx hb dX5_number_54 (by decide) ?_
              refine x_iadd hx hb dX5_number_59 ?_
              refine x_to (sp_dg z2 q) (by unfold sp_dg; rw [if_neg (by omega)]) ?_
              refine x_ist hx hb hK hP hD hS (i := 59) (by omega) hM.2.2.2.2.2.2.1 (by omega) dX5_number_60 (fun H locs hP hS => ?_)
              obtain ⟨en12, he12⟩ : ∃ z, z = va_up ew17 59 (.inl (cA 0, 24, .inl (upd (fun k => xI (G k)) q (xI (sp_dg z2 q))))) := ⟨_, rfl⟩
              have hP : va_P D vwCl (xw n ad en12) H := by rw [he12]; exact hP
              have hM : MW cA ad en12 (mO M.built M.builtMany M.told M.toldMany M.row M.rowMany (sp_up G q (sp_dg z2 q)) M.partText M.partFrom M.partMany M.parts M.cut M.cutMany M.isCut M.cutGives M.cutAt M.h) := by rw [he12]; exact hM.u_figures q (sp_dg z2 q)
              have ho : xO 53 68 en en12 := by rw [he12]; exact ho.up (by omega) (by omega)
              refine lv_lload hx hb dX5_number_61 (lv_at hl 4 rfl) ?_
              refine x_ldc2 hx hb hown (hts _ u_ko_RX5_97) (k := 10) (by decide +kernel) dX5_number_63 ?_
              refine x_ldiv hx hb dX5_number_66 (sp_q_r hz2 q) ?_
              refine lv_lstore (lv' := [(4, .long (xL (sp_q z2 (q + 1)))), (7, .int (xI (Int.tmod (sp_q z2 q) 10))), (0, .ref (ad 53)), (1, .int (xI (b1 : Int))), (2, .long (xL z2)), (6, .int (xI (q : Int)))]) hx hb dX5_number_67 hl (by decide) rfl (fun ls hl => ?_)
              refine x_iinc (lv' := [(6, .int (xI ((q : Int) + 1))), (4, .long (xL (sp_q z2 (q + 1)))), (7, .int (xI (Int.tmod (sp_q z2 q) 10))), (0, .ref (ad 53)), (1, .int (xI (b1 : Int))), (2, .long (xL z2))]) (k := 5) hx hb dX5_number_69 hl rfl (by decide) rfl (fun ls hl => ?_)
              refine lv_goto (tgt := 17) hx hb dX5_number_72 (by decide) ?_
              exact ih (q + 1) _ en12 _ _ (by omega) ((sp_ln_t (by omega) (by omega)).symm.trans hL) (fun t ht => by
      by_cases q1 : t = q
      · rw [q1, sp_up_s]
      · rw [sp_up_n _ _ (by omega)]; exact hG t (by omega)) (by omega) hM ho hP hS ls (lv_sub hl [3, 4, 5, 1, 0] rfl)
    exact L17 _ 0 M.figures en _ _ (Nat.zero_le _) rfl (fun t ht => absurd ht (Nat.not_lt_zero _)) (Nat.lt_succ_self _) hM ho hP hS ls (lv_sub hl [2, 3, 4, 1, 0] rfl)
  · refine lv_iload_n hx hb dX5_number_0 rfl (lv_at hl 1 rfl) ?_
    refine xt_i (As := [.int (xI z1)]) (rest := []) ⟨hx, hb, hml, hown, hts⟩ hl.1 (c_X5_isBuilder l z1 (by omega)) k_X5_isBuilder u_ml_RX5_70 rfl rfl (Nat.le_of_ble_eq_true rfl) ⟨Nat.le_of_ble_eq_true rfl, Nat.le_of_ble_eq_true rfl⟩ ⟨Nat.le_of_ble_eq_true rfl, Nat.le_of_ble_eq_true rfl⟩ dX5_number_1 ?_
    refine x_top (q1 := False) ⟨fun h => absurd h (by omega), False.elim⟩ ?_
    refine x_ifb_ne (tgt := 11) hx hb dX5_number_4 (by decide)  (fun c_4 => absurd c_4 id) (fun c_4 => ?_)
    refine x_sipush hx hb dX5_number_7 (by decide +kernel) ?_
    exact xe_i hx hb hrt hlocks hP hS ((by unfold am_number; rw [sp_if_t (by omega)]; exact ⟨rfl, _, hM, hR, ho⟩)) dX5_number_10

set_option maxRecDepth 20000 in
theorem c_X5_parts (l : Launch) (D : va_G) (cA : Nat → ClassId) (n : Nat) (ad : Nat → Nat) (en : Nat → va_E) (hn : 68 ≤ n) {M : MO} (hM : MW cA ad en M) {S : xSt} (hW : WF S) (hR : MR S M) : Met l yX5_parts (Cond.code yX5_parts cX5_parts 1 (some .int) :: xU) (xrm 0 0) (va_Pc [.ref (ad 53)] (xB D cA n ad en)) (vp_Si (fun z => z = xI (am_parts S))) 0 0 (fun _ => False) := by
  refine xmet (by decide) (Nat.le_of_ble_eq_true rfl) (fun p e s mm args below meth c ls hx hb hrt hml hown hts hlocks hname hB hl => ?_)
  obtain ⟨hP, hK, hN⟩ := hB
  have hl : lv_has ls 1 [(0, .ref (ad 53))] := hl
  obtain ⟨wn, hwn, hwb⟩ := hW.2.2.1
  have hwm : wn ≤ 200 := hwn.1
  have hwp := hW.2.2.2.1
  have hwq := hwp.1
  have hpn : M.parts = (S.2.2.1.1 : Int) := hR.2.2.1.1
  have hpk := hR.2.2.1.2
  refine lv_aload_n hx hb dX5_parts_0 rfl (lv_at hl 0 rfl) ?_
  refine x_get (T := TX5) (N := 17) hx hb hts uX5 hown hK hP (i := 53) (by omega) hM.1 rfl 10 (by decide) u_fl_RX5_148 rfl dX5_parts_1 ?_
  refine x_to ((S.2.2.1.1 : Int)) (hpn) ?_
  exact xr_i hx hb hrt hlocks (by unfold am_parts; rfl) dX5_parts_4

set_option maxRecDepth 20000 in
theorem c_X5_partTo (l : Launch) (D : va_G) (cA : Nat → ClassId) (n : Nat) (ad : Nat → Nat) (en : Nat → va_E) (sz : Nat) (hn : 68 ≤ n) {M : MO} (hM : MW cA ad en M) {S : xSt} (hW : WF S) (hR : MR S M) (z1 : Int) (hz1 : -2147483648 ≤ z1 ∧ z1 ≤ 2147483647) (z2 : Int) (hz2 : -2147483648 ≤ z2 ∧ z2 ≤ 2147483647) : Met l yX5_partTo (Cond.code yX5_partTo cX5_partTo 3 (some .int) :: xU) (xrm 2 45) (va_Pc [.ref (ad 53), .int (xI z1), .int (xI z2)] (xM D cA n ad en sz)) (va_Qi (fun r u => r = xI (am_partTo S z1 z2).1 ∧ ∃ M' : MO, MW cA ad u M' ∧ MR (am_partTo S z1 z2).2 M' ∧ xO 53 68 en u) (xE D n ad) (xA n ad sz)) 0 0 (xA n ad sz) := by
  refine xmet (by decide) (Nat.le_of_ble_eq_true rfl) (fun p e s mm args below meth c ls hx hb hrt hml hown hts hlocks hname hB hl => ?_)
  obtain ⟨⟨hP, hK, hN⟩, hsz, hDt⟩ := hB
  have hD : xD (xA n ad sz) n ad := xD_self hDt sz
  have hA : ∀ q : Nat, s.heap.size ≤ q → xA n ad sz q := fun q h => Or.inr (by rw [← hsz]; exact h)
  have hS : va_S (xA n ad sz) s.heap s.heap [] := va_S.rf
  have hown : s.vm.findClass RX5 = some mm.cls := hown
  have hl : lv_has ls 3 [(0, .ref (ad 53)), (1, .int (xI z1)), (2, .int (xI z2))] := hl
  have ho : xO 53 68 en en := xO.rf
  rcases Classical.em (0 ≤ z2 ∧ z2 < 8) with hx_z2 | hx_z2
  · obtain ⟨t2, rfl⟩ : ∃ q : Nat, z2 = (q : Int) := ⟨z2.toNat, by omega⟩
    have h_t2 : t2 < 8 := by omega
    obtain ⟨wn, hwn, hwb⟩ := hW.2.2.1
    have hwm : wn ≤ 200 := hwn.1
    have hwp := hW.2.2.2.1
    have hwq := hwp.1
    have hpn : M.parts = (S.2.2.1.1 : Int) := hR.2.2.1.1
    have hpk := hR.2.2.1.2
    refine lv_iload_n hx hb dX5_partTo_0 rfl (lv_at hl 2 rfl) ?_
    refine xt_i (As := [.int (xI (t2 : Int))]) (rest := []) ⟨hx, hb, hml, hown, hts⟩ hl.1 (c_X5_isText l (t2 : Int) (by omega)) k_X5_isText u_ml_RX5_87 rfl rfl (Nat.le_of_ble_eq_true rfl) ⟨Nat.le_of_ble_eq_true rfl, Nat.le_of_ble_eq_true rfl⟩ ⟨Nat.le_of_ble_eq_true rfl, Nat.le_of_ble_eq_true rfl⟩ dX5_partTo_1 ?_
    refine x_top (q1 := True) ⟨fun _ => trivial, fun _ => by omega⟩ ?_
    refine x_ifb_ne (tgt := 11) hx hb dX5_partTo_4 (by decide)  (fun c_4 => ?_) (fun c_4 => absurd trivial c_4)
    refine lv_iload_n hx hb dX5_partTo_11 rfl (lv_at hl 1 rfl) ?_
    refine x_i2l hx hb dX5_partTo_12 (by omega) ?_
    refine lv_lconst (v := xL 0) hx hb dX5_partTo_13 (by decide +kernel) ?_
    refine lv_aload_n hx hb dX5_partTo_14 rfl (lv_at hl 0 rfl) ?_
    refine x_get (T := TX5) (N := 17) hx hb hts uX5 hown hK hP (i := 53) (by omega) hM.1 rfl 10 (by decide) u_fl_RX5_148 rfl dX5_partTo_15 ?_
    refine x_to ((S.2.2.1.1 : Int)) (hpn) ?_
    refine x_iconst hx hb dX5_partTo_18 ?_
    refine x_isub hx hb dX5_partTo_19 ?_
    refine x_i2l hx hb dX5_partTo_20 (by omega) ?_
    refine xt_i (As := [.long (xL z1), .long (xL 0), .long (xL ((S.2.2.1.1 : Int) - 1))]) (rest := []) ⟨hx, hb, hml, hown, hts⟩ hl.1 (c_X5_in l z1 0 ((S.2.2.1.1 : Int) - 1) (by omega) (by omega) (by omega)) k_X5_in u_ml_RX5_54 rfl rfl (Nat.le_of_ble_eq_true rfl) ⟨Nat.le_of_ble_eq_true rfl, Nat.le_of_ble_eq_true rfl⟩ ⟨Nat.le_of_ble_eq_true rfl, Nat.le_of_ble_eq_true rfl⟩ dX5_partTo_21 ?_
    refine x_ifb_ne (tgt := 29) hx hb dX5_partTo_24 (by decide)  (fun c_24 => ?_) (fun c_24 => ?_)
    · obtain ⟨pk, hv_z1⟩ : ∃ q : Nat, z1 = (q : Int) := ⟨Int.toNat z1, by omega⟩
      have hl : lv_has ls 3 [(0, .ref (ad 53)), (1, .int (xI (pk : Int))), (2, .int (xI (t2 : Int)))] := by rw [← hv_z1]; exact hl
      refine lv_aload_n hx hb dX5_partTo_29 rfl (lv_at hl 0 rfl) ?_
      refine x_iconst hx hb dX5_partTo_30 ?_
      refine x_put (T := TX5) (N := 17) (ty := .int) hx hb hts uX5 tyX5 tyX5_ok nmX5 hown hK hP hD hS (i := 53) (by omega) hM.1 rfl 5 (by decide) u_fl_RX5_62 rfl (by decide +kernel) rfl rfl (by show 5 < 17; decide) dX5_partTo_31 (fun H locs hP hS => ?_)
      obtain ⟨en1, he1⟩ : ∃ z, z = va_up en 53 (.inr (5, [.ref (ad 54), .ref (ad 55), .ref (ad 56), .ref (ad 57), .ref (ad 58), .int (xI 0), .ref (ad 59), .ref (ad 60), .ref (ad 61), .ref (ad 62), .int (xI M.parts), .ref (ad 63), .ref (ad 64), .ref (ad 65), .ref (ad 66), .ref (ad 67), .long M.h])) := ⟨_, rfl⟩
      have hP : va_P D vwCl (xw n ad en1) H := by rw [he1]; exact hP
      have hM : MW cA ad en1 (mO M.built M.builtMany M.told M.toldMany M.row 0 M.figures M.partText M.partFrom M.partMany M.parts M.cut M.cutMany M.isCut M.cutGives M.cutAt M.h) := by rw [he1]; exact hM.s_rowMany 0
      have ho : xO 53 68 en en1 := by rw [he1]; exact ho.up (by omega) (by omega)
      refine lv_aload_n hx hb dX5_partTo_34 rfl (lv_at hl 0 rfl) ?_
      refine lv_iload_n hx hb dX5_partTo_35 rfl (lv_at hl 1 rfl) ?_
      have hpe := hwb pk (by omega)
      have hps := hwp.2.1 pk (by omega)
      obtain ⟨hk1, hk2, hk3⟩ := hpk pk (by omega)
      refine xm_v (i := 53) (As := [.int (xI (pk : Int))]) (rest := []) ⟨hx, hb, hml, hown, hts⟩ hl.1 (c_X5_addPart l D cA n ad en1 _ hn hM pk (by omega) (S.2.2.1.2.1 pk) (S.2.2.1.2.2.1 pk - S.2.2.1.2.1 pk) hk1 (show M.partMany pk = ((S.2.2.1.2.2.1 pk - S.2.2.1.2.1 pk : Nat) : Int) from by omega) (by omega) (0 : Nat) (show 0 = (((0 : Nat) : Nat) : Int) from rfl) (by omega)) k_X5_addPart u_ml_RX5_157 hK hN hP (by omega) (show en1 53 = .inr (5, [.ref (ad 54), .ref (ad 55), .ref (ad 56), .ref (ad 57), .ref (ad 58), .int (xI 0), .ref (ad 59), .ref (ad 60), .ref (ad 61), .ref (ad 62), .int (xI M.parts), .ref (ad 63), .ref (ad 64), .ref (ad 65), .ref (ad 66), .ref (ad 67), .long M.h]) from hM.1) rfl rfl rfl rfl (Nat.le_of_ble_eq_true rfl) ⟨Nat.le_of_ble_eq_true rfl, Nat.le_of_ble_eq_true rfl⟩ ⟨Nat.le_of_ble_eq_true rfl, Nat.le_of_ble_eq_true rfl⟩ dX5_partTo_36 hD hS hA (fun en2 H locs hp2 hP hS => ?_)
      obtain ⟨F5, hA5, hB5, hM, ho2⟩ := hp2
      have hM : MW cA ad en2 (mO M.built M.builtMany M.told M.toldMany F5 (((0 : Nat) : Int) + ((S.2.2.1.2.2.1 pk - S.2.2.1.2.1 pk : Nat) : Int)) M.figures M.partText M.partFrom M.partMany M.parts M.cut M.cutMany M.isCut M.cutGives M.cutAt M.h) := hM
      have ho := ho.tr ho2
      have hA5 : ∀ j : Nat, j < (0 : Nat) → F5 j = M.row j := hA5
      have hB5 : ∀ i : Nat, i < S.2.2.1.2.2.1 pk - S.2.2.1.2.1 pk → F5 ((0 : Nat) + i) = M.partText (S.2.2.1.2.1 pk + i) := hB5
      have hC5 : ∀ k : Nat, k < S.2.2.1.2.2.1 pk - S.2.2.1.2.1 pk → F5 k = S.2.2.1.2.2.2 (S.2.2.1.2.1 pk + k) := fun k hk => by have q5 := hB5 k hk; rw [Nat.zero_add] at q5; exact q5.trans (hk3 _ (by omega) (by omega))
      refine lv_aload_n hx hb dX5_partTo_39 rfl (lv_at hl 0 rfl) ?_
      refine lv_iload_n hx hb dX5_partTo_40 rfl (lv_at hl 2 rfl) ?_
      refine xm_i (i := 53) (As := [.int (xI (t2 : Int))]) (rest := []) ⟨hx, hb, hml, hown, hts⟩ hl.1 (c_X5_become l D cA n ad en2 _ hn hM t2 h_t2 (S.2.2.1.2.2.1 pk - S.2.2.1.2.1 pk) (show (((0 : Nat) : Int) + ((S.2.2.1.2.2.1 pk - S.2.2.1.2.1 pk : Nat) : Int)) = (((S.2.2.1.2.2.1 pk - S.2.2.1.2.1 pk) : Nat) : Int) from by omega) (by omega)) k_X5_become u_ml_RX5_118 hK hN hP (by omega) (show en2 53 = .inr (5, [.ref (ad 54), .ref (ad 55), .ref (ad 56), .ref (ad 57), .ref (ad 58), .int (xI (((0 : Nat) : Int) + ((S.2.2.1.2.2.1 pk - S.2.2.1.2.1 pk : Nat) : Int))), .ref (ad 59), .ref (ad 60), .ref (ad 61), .ref (ad 62), .int (xI M.parts), .ref (ad 63), .ref (ad 64), .ref (ad 65), .ref (ad 66), .ref (ad 67), .long M.h]) from hM.1) rfl rfl rfl rfl (Nat.le_of_ble_eq_true rfl) ⟨Nat.le_of_ble_eq_true rfl, Nat.le_of_ble_eq_true rfl⟩ ⟨Nat.le_of_ble_eq_true rfl, Nat.le_of_ble_eq_true rfl⟩ dX5_partTo_41 hD hS hA (fun r3 en3 H locs hp3 hP hS => ?_)
      obtain ⟨hrv, T9, hT9, hU9, hM, ho2⟩ := hp3
      have hrv : r3 = xI (((0 : Nat) : Int) + ((S.2.2.1.2.2.1 pk - S.2.2.1.2.1 pk : Nat) : Int)) := hrv
      subst hrv
      have hM : MW cA ad en3 (mO M.built M.builtMany T9 (sp_up M.toldMany t2 (((0 : Nat) : Int) + ((S.2.2.1.2.2.1 pk - S.2.2.1.2.1 pk : Nat) : Int))) F5 (((0 : Nat) : Int) + ((S.2.2.1.2.2.1 pk - S.2.2.1.2.1 pk : Nat) : Int)) M.figures M.partText M.partFrom M.partMany M.parts M.cut M.cutMany M.isCut M.cutGives M.cutAt M.h) := hM
      have ho := ho.tr ho2
      have hT9 : ∀ k : Nat, k < (S.2.2.1.2.2.1 pk - S.2.2.1.2.1 pk) → T9 (200 * t2 + k) = F5 k := hT9
      have hU9 : ∀ j : Nat, j < 200 * t2 ∨ 200 * t2 + 200 ≤ j → T9 j = M.told j := hU9
      exact xe_i hx hb hrt hlocks hP hS ((by unfold am_partTo; simp only [Int.toNat_natCast]; rw [sp_if_f (by omega), sp_if_f (by omega)]; (try rw [show Int.toNat z1 = pk by omega]); have q9 := hR.text hW h_t2 (o := some ((S.2.2.1.2.2.1 pk - S.2.2.1.2.1 pk, fun q => S.2.2.1.2.2.2 (S.2.2.1.2.1 pk + q)) : xRow)) (T' := T9) (z := (((0 : Nat) : Int) + ((S.2.2.1.2.2.1 pk - S.2.2.1.2.1 pk : Nat) : Int))) ⟨by first | rfl | omega | (dsimp only; omega), fun k hk => (hT9 k (by first | exact hk | omega | (dsimp only at hk; omega))).trans (hC5 k (by first | exact hk | omega | (dsimp only at hk; omega)))⟩ hU9; exact ⟨congrArg xI (by omega), _, hM, q9, ho⟩)) dX5_partTo_44
    · refine x_iconst hx hb dX5_partTo_27 ?_
      exact xe_i hx hb hrt hlocks hP hS ((by unfold am_partTo; simp only [Int.toNat_natCast]; rw [sp_if_f (by omega), sp_if_t (by omega)]; exact ⟨rfl, _, hM, hR, ho⟩)) dX5_partTo_28
  · obtain ⟨wn, hwn, hwb⟩ := hW.2.2.1
    have hwm : wn ≤ 200 := hwn.1
    have hwp := hW.2.2.2.1
    have hwq := hwp.1
    have hpn : M.parts = (S.2.2.1.1 : Int) := hR.2.2.1.1
    have hpk := hR.2.2.1.2
    refine lv_iload_n hx hb dX5_partTo_0 rfl (lv_at hl 2 rfl) ?_
    refine xt_i (As := [.int (xI z2)]) (rest := []) ⟨hx, hb, hml, hown, hts⟩ hl.1 (c_X5_isText l z2 (by omega)) k_X5_isText u_ml_RX5_87 rfl rfl (Nat.le_of_ble_eq_true rfl) ⟨Nat.le_of_ble_eq_true rfl, Nat.le_of_ble_eq_true rfl⟩ ⟨Nat.le_of_ble_eq_true rfl, Nat.le_of_ble_eq_true rfl⟩ dX5_partTo_1 ?_
    refine x_top (q1 := False) ⟨fun h => absurd h (by omega), False.elim⟩ ?_
    refine x_ifb_ne (tgt := 11) hx hb dX5_partTo_4 (by decide)  (fun c_4 => absurd c_4 id) (fun c_4 => ?_)
    refine x_sipush hx hb dX5_partTo_7 (by decide +kernel) ?_
    exact xe_i hx hb hrt hlocks hP hS ((by unfold am_partTo; rw [sp_if_t (by omega)]; exact ⟨rfl, _, hM, hR, ho⟩)) dX5_partTo_10

set_option maxRecDepth 20000 in
theorem c_X5_joined (l : Launch) (D : va_G) (cA : Nat → ClassId) (n : Nat) (ad : Nat → Nat) (en : Nat → va_E) (sz : Nat) (hn : 68 ≤ n) {M : MO} (hM : MW cA ad en M) {S : xSt} (hW : WF S) (hR : MR S M) (z1 : Int) (hz1 : -2147483648 ≤ z1 ∧ z1 ≤ 2147483647) (z2 : Int) (hz2 : -2147483648 ≤ z2 ∧ z2 ≤ 2147483647) : Met l yX5_joined (Cond.code yX5_joined cX5_joined 4 (some .int) :: xU) (xrm 2 45) (va_Pc [.ref (ad 53), .int (xI z1), .int (xI z2)] (xM D cA n ad en sz)) (va_Qi (fun r u => r = xI (am_joined S z1 z2).1 ∧ ∃ M' : MO, MW cA ad u M' ∧ MR (am_joined S z1 z2).2 M' ∧ xO 53 68 en u) (xE D n ad) (xA n ad sz)) 0 0 (xA n ad sz) := by
  refine xmet (by decide) (Nat.le_of_ble_eq_true rfl) (fun p e s mm args below meth c ls hx hb hrt hml hown hts hlocks hname hB hl => ?_)
  obtain ⟨⟨hP, hK, hN⟩, hsz, hDt⟩ := hB
  have hD : xD (xA n ad sz) n ad := xD_self hDt sz
  have hA : ∀ q : Nat, s.heap.size ≤ q → xA n ad sz q := fun q h => Or.inr (by rw [← hsz]; exact h)
  have hS : va_S (xA n ad sz) s.heap s.heap [] := va_S.rf
  have hown : s.vm.findClass RX5 = some mm.cls := hown
  have hl : lv_has ls 4 [(0, .ref (ad 53)), (1, .int (xI z1)), (2, .int (xI z2))] := hl
  have ho : xO 53 68 en en := xO.rf
  rcases Classical.em (0 ≤ z2 ∧ z2 < 8) with hx_z2 | hx_z2
  · obtain ⟨t2, rfl⟩ : ∃ q : Nat, z2 = (q : Int) := ⟨z2.toNat, by omega⟩
    have h_t2 : t2 < 8 := by omega
    obtain ⟨wn, hwn, hwb⟩ := hW.2.2.1
    have hwm : wn ≤ 200 := hwn.1
    have hwp := hW.2.2.2.1
    have hwq := hwp.1
    have hpn : M.parts = (S.2.2.1.1 : Int) := hR.2.2.1.1
    have hpk := hR.2.2.1.2
    refine lv_iload_n hx hb dX5_joined_0 rfl (lv_at hl 2 rfl) ?_
    refine xt_i (As := [.int (xI (t2 : Int))]) (rest := []) ⟨hx, hb, hml, hown, hts⟩ hl.1 (c_X5_isText l (t2 : Int) (by omega)) k_X5_isText u_ml_RX5_87 rfl rfl (Nat.le_of_ble_eq_true rfl) ⟨Nat.le_of_ble_eq_true rfl, Nat.le_of_ble_eq_true rfl⟩ ⟨Nat.le_of_ble_eq_true rfl, Nat.le_of_ble_eq_true rfl⟩ dX5_joined_1 ?_
    refine x_top (q1 := True) ⟨fun _ => trivial, fun _ => by omega⟩ ?_
    refine x_ifb_ne (tgt := 11) hx hb dX5_joined_4 (by decide)  (fun c_4 => ?_) (fun c_4 => absurd trivial c_4)
    refine lv_iload_n hx hb dX5_joined_11 rfl (lv_at hl 1 rfl) ?_
    refine xt_i (As := [.int (xI z1)]) (rest := []) ⟨hx, hb, hml, hown, hts⟩ hl.1 (c_X5_isSign l z1 (by omega)) k_X5_isSign u_ml_RX5_74 rfl rfl (Nat.le_of_ble_eq_true rfl) ⟨Nat.le_of_ble_eq_true rfl, Nat.le_of_ble_eq_true rfl⟩ ⟨Nat.le_of_ble_eq_true rfl, Nat.le_of_ble_eq_true rfl⟩ dX5_joined_12 ?_
    refine x_ifb_ne (tgt := 22) hx hb dX5_joined_15 (by decide)  (fun c_15 => ?_) (fun c_15 => ?_)
    · refine lv_aload_n hx hb dX5_joined_22 rfl (lv_at hl 0 rfl) ?_
      refine x_iconst hx hb dX5_joined_23 ?_
      refine x_put (T := TX5) (N := 17) (ty := .int) hx hb hts uX5 tyX5 tyX5_ok nmX5 hown hK hP hD hS (i := 53) (by omega) hM.1 rfl 5 (by decide) u_fl_RX5_62 rfl (by decide +kernel) rfl rfl (by show 5 < 17; decide) dX5_joined_24 (fun H locs hP hS => ?_)
      obtain ⟨en1, he1⟩ : ∃ z, z = va_up en 53 (.inr (5, [.ref (ad 54), .ref (ad 55), .ref (ad 56), .ref (ad 57), .ref (ad 58), .int (xI 0), .ref (ad 59), .ref (ad 60), .ref (ad 61), .ref (ad 62), .int (xI M.parts), .ref (ad 63), .ref (ad 64), .ref (ad 65), .ref (ad 66), .ref (ad 67), .long M.h])) := ⟨_, rfl⟩
      have hP : va_P D vwCl (xw n ad en1) H := by rw [he1]; exact hP
      have hM : MW cA ad en1 (mO M.built M.builtMany M.told M.toldMany M.row 0 M.figures M.partText M.partFrom M.partMany M.parts M.cut M.cutMany M.isCut M.cutGives M.cutAt M.h) := by rw [he1]; exact hM.s_rowMany 0
      have ho : xO 53 68 en en1 := by rw [he1]; exact ho.up (by omega) (by omega)
      refine x_iconst hx hb dX5_joined_27 ?_
      refine lv_istore_n (lv' := [(3, .int (xI 0)), (0, .ref (ad 53)), (1, .int (xI z1)), (2, .int (xI (t2 : Int)))]) hx hb dX5_joined_28 rfl hl (by decide) rfl (fun ls hl => ?_)
      have L29 : ∀ (nn : Nat) (K : Nat) (F : Nat → Int) (ew29 : Nat → va_E) (H : Heap) (locs : List Loc), (K ≤ S.2.2.1.1) → ((sp_jn S.2.2.1 z1 K).1 ≤ 200) → (∀ j : Nat, j < (sp_jn S.2.2.1 z1 K).1 → F j = (sp_jn S.2.2.1 z1 K).2 j) → (S.2.2.1.1 - K) < nn → (MW cA ad ew29 (mO M.built M.builtMany M.told M.toldMany F ((sp_jn S.2.2.1 z1 K).1 : Int) M.figures M.partText M.partFrom M.partMany M.parts M.cut M.cutMany M.isCut M.cutGives M.cutAt M.h)) → (xO 53 68 en ew29) → va_P D vwCl (xw n ad ew29) H → va_S (xA n ad sz) s.heap H locs → ∀ ls : Array Slot, lv_has ls 4 [(0, .ref (ad 53)), (1, .int (xI z1)), (2, .int (xI (t2 : Int))), (3, .int (xI (K : Int)))] → W p l e (xrm 2 45) s mm args below meth c H locs 0 0 (MQ below (va_Qi (fun r u => r = xI (am_joined S z1 (t2 : Int)).1 ∧ ∃ M' : MO, MW cA ad u M' ∧ MR (am_joined S z1 (t2 : Int)).2 M' ∧ xO 53 68 en u) (xE D n ad) (xA n ad sz)) args s 0 0 (xA n ad sz)) (F0 mm 29 ls []) := by
        intro nn
        induction nn with
        | zero =>
          intro K F ew29 H locs hk8 hj0 hF hmm hM ho hP hS ls hl
          exact absurd hmm (Nat.not_lt_zero _)
        | succ nn ih =>
          intro K F ew29 H locs hk8 hj0 hF hmm hM ho hP hS ls hl
          refine lv_iload_n hx hb dX5_joined_29 rfl (lv_at hl 3 rfl) ?_
          refine lv_aload_n hx hb dX5_joined_30 rfl (lv_at hl 0 rfl) ?_
          refine x_get (T := TX5) (N := 17) hx hb hts uX5 hown hK hP (i := 53) (by omega) (show ew29 53 = .inr (5, [.ref (ad 54), .ref (ad 55), .ref (ad 56), .ref (ad 57), .ref (ad 58), .int (xI ((sp_jn S.2.2.1 z1 K).1 : Int)), .ref (ad 59), .ref (ad 60), .ref (ad 61), .ref (ad 62), .int (xI M.parts), .ref (ad 63), .ref (ad 64), .ref (ad 65), .ref (ad 66), .ref (ad 67), .long M.h]) from hM.1) rfl 10 (by decide) u_fl_RX5_148 rfl dX5_joined_31 ?_
          refine x_to ((S.2.2.1.1 : Int)) (hpn) ?_
          refine x_icmp_ge (tgt := 72) hx hb dX5_joined_34 (by decide) (by omega) (fun c_34 => ?_) (fun c_34 => ?_)
          · have hke : K = S.2.2.1.1 := by omega
            have hJ5 : ∀ k : Nat, k < (sp_jn S.2.2.1 z1 K).1 → F k = (sp_jn S.2.2.1 z1 S.2.2.1.1).2 k := fun k hk => by rw [← hke]; exact hF k hk
            have hJ6 : (sp_jn S.2.2.1 z1 K).1 = (sp_jn S.2.2.1 z1 S.2.2.1.1).1 := by rw [hke]
            refine lv_aload_n hx hb dX5_joined_72 rfl (lv_at hl 0 rfl) ?_
            refine lv_iload_n hx hb dX5_joined_73 rfl (lv_at hl 2 rfl) ?_
            refine xm_i (i := 53) (As := [.int (xI (t2 : Int))]) (rest := []) ⟨hx, hb, hml, hown, hts⟩ hl.1 (c_X5_become l D cA n ad ew29 _ hn hM t2 h_t2 ((sp_jn S.2.2.1 z1 K).1) (show ((sp_jn S.2.2.1 z1 K).1 : Int) = (((sp_jn S.2.2.1 z1 K).1 : Nat) : Int) from by omega) (by omega)) k_X5_become u_ml_RX5_118 hK hN hP (by omega) (show ew29 53 = .inr (5, [.ref (ad 54), .ref (ad 55), .ref (ad 56), .ref (ad 57), .ref (ad 58), .int (xI ((sp_jn S.2.2.1 z1 K).1 : Int)), .ref (ad 59), .ref (ad 60), .ref (ad 61), .ref (ad 62), .int (xI M.parts), .ref (ad 63), .ref (ad 64), .ref (ad 65), .ref (ad 66), .ref (ad 67), .long M.h]) from hM.1) rfl rfl rfl rfl (Nat.le_of_ble_eq_true rfl) ⟨Nat.le_of_ble_eq_true rfl, Nat.le_of_ble_eq_true rfl⟩ ⟨Nat.le_of_ble_eq_true rfl, Nat.le_of_ble_eq_true rfl⟩ dX5_joined_74 hD hS hA (fun r2 en2 H locs hp2 hP hS => ?_)
            obtain ⟨hrv, T9, hT9, hU9, hM, ho2⟩ := hp2
            have hrv : r2 = xI ((sp_jn S.2.2.1 z1 K).1 : Int) := hrv
            subst hrv
            have hM : MW cA ad en2 (mO M.built M.builtMany T9 (sp_up M.toldMany t2 ((sp_jn S.2.2.1 z1 K).1 : Int)) F ((sp_jn S.2.2.1 z1 K).1 : Int) M.figures M.partText M.partFrom M.partMany M.parts M.cut M.cutMany M.isCut M.cutGives M.cutAt M.h) := hM
            have ho := ho.tr ho2
            have hT9 : ∀ k : Nat, k < (sp_jn S.2.2.1 z1 K).1 → T9 (200 * t2 + k) = F k := hT9
            have hU9 : ∀ j : Nat, j < 200 * t2 ∨ 200 * t2 + 200 ≤ j → T9 j = M.told j := hU9
            exact xe_i hx hb hrt hlocks hP hS ((by unfold am_joined; simp only [Int.toNat_natCast]; rw [sp_if_f (by omega), sp_if_f (by omega)]; have q9 := hR.text hW h_t2 (o := some (sp_jn S.2.2.1 z1 S.2.2.1.1)) (T' := T9) (z := ((sp_jn S.2.2.1 z1 K).1 : Int)) ⟨by first | rfl | omega | (dsimp only; omega), fun k hk => (hT9 k (by first | exact hk | omega | (dsimp only at hk; omega))).trans (hJ5 k (by first | exact hk | omega | (dsimp only at hk; omega)))⟩ hU9; exact ⟨congrArg xI (by omega), _, hM, q9, ho⟩)) dX5_joined_77
          · have hkk : K < S.2.2.1.1 := by omega
            have hj1 := sp_jn_l (z := z1) hwp.2.2.1 hwp.2.1 hwp.2.2.2 K hkk
            have hj3 := hwp.2.1 K hkk
            have hj4 := hwb K hkk
            refine lv_iload_n hx hb dX5_joined_37 rfl (lv_at hl 3 rfl) ?_
            refine x_if_le (tgt := 61) hx hb dX5_joined_38 (by decide) (by omega) (fun c_38 => ?_) (fun c_38 => ?_)
            · have hj5 : (sp_jn S.2.2.1 z1 K).1 = (sp_jh (sp_jn S.2.2.1 z1 K) z1 K).1 := by rw [sp_jh_0 (by omega)]
              have hH : ∀ j : Nat, j < (sp_jh (sp_jn S.2.2.1 z1 K) z1 K).1 → F j = (sp_jh (sp_jn S.2.2.1 z1 K) z1 K).2 j := fun j hj => by rw [sp_jh_0 (by omega)] at hj ⊢; exact hF j hj
              have hM : MW cA ad ew29 (mO M.built M.builtMany M.told M.toldMany F ((sp_jh (sp_jn S.2.2.1 z1 K) z1 K).1 : Int) M.figures M.partText M.partFrom M.partMany M.parts M.cut M.cutMany M.isCut M.cutGives M.cutAt M.h) := by rw [show ((sp_jh (sp_jn S.2.2.1 z1 K) z1 K).1 : Int) = ((sp_jn S.2.2.1 z1 K).1 : Int) by omega]; exact hM
              refine lv_aload_n hx hb dX5_joined_61 rfl (lv_at hl 0 rfl) ?_
              refine lv_iload_n hx hb dX5_joined_62 rfl (lv_at hl 3 rfl) ?_
              have hpe := hwb K (by omega)
              have hps := hwp.2.1 K (by omega)
              obtain ⟨hk1, hk2, hk3⟩ := hpk K (by omega)
              refine xm_v (i := 53) (As := [.int (xI (K : Int))]) (rest := []) ⟨hx, hb, hml, hown, hts⟩ hl.1 (c_X5_addPart l D cA n ad ew29 _ hn hM K (by omega) (S.2.2.1.2.1 K) (S.2.2.1.2.2.1 K - S.2.2.1.2.1 K) hk1 (show M.partMany K = ((S.2.2.1.2.2.1 K - S.2.2.1.2.1 K : Nat) : Int) from by omega) (by omega) (sp_jh (sp_jn S.2.2.1 z1 K) z1 K).1 (show ((sp_jh (sp_jn S.2.2.1 z1 K) z1 K).1 : Int) = (((sp_jh (sp_jn S.2.2.1 z1 K) z1 K).1 : Nat) : Int) from rfl) (by omega)) k_X5_addPart u_ml_RX5_157 hK hN hP (by omega) (show ew29 53 = .inr (5, [.ref (ad 54), .ref (ad 55), .ref (ad 56), .ref (ad 57), .ref (ad 58), .int (xI ((sp_jh (sp_jn S.2.2.1 z1 K) z1 K).1 : Int)), .ref (ad 59), .ref (ad 60), .ref (ad 61), .ref (ad 62), .int (xI M.parts), .ref (ad 63), .ref (ad 64), .ref (ad 65), .ref (ad 66), .ref (ad 67), .long M.h]) from hM.1) rfl rfl rfl rfl (Nat.le_of_ble_eq_true rfl) ⟨Nat.le_of_ble_eq_true rfl, Nat.le_of_ble_eq_true rfl⟩ ⟨Nat.le_of_ble_eq_true rfl, Nat.le_of_ble_eq_true rfl⟩ dX5_joined_63 hD hS hA (fun en3 H locs hp3 hP hS => ?_)
              obtain ⟨F5, hA5, hB5, hM, ho2⟩ := hp3
              have hM : MW cA ad en3 (mO M.built M.builtMany M.told M.toldMany F5 (((sp_jh (sp_jn S.2.2.1 z1 K) z1 K).1 : Int) + ((S.2.2.1.2.2.1 K - S.2.2.1.2.1 K : Nat) : Int)) M.figures M.partText M.partFrom M.partMany M.parts M.cut M.cutMany M.isCut M.cutGives M.cutAt M.h) := hM
              have ho := ho.tr ho2
              have hA5 : ∀ j : Nat, j < (sp_jh (sp_jn S.2.2.1 z1 K) z1 K).1 → F5 j = F j := hA5
              have hB5 : ∀ i : Nat, i < S.2.2.1.2.2.1 K - S.2.2.1.2.1 K → F5 ((sp_jh (sp_jn S.2.2.1 z1 K) z1 K).1 + i) = M.partText (S.2.2.1.2.1 K + i) := hB5
              refine x_iinc (lv' := [(3, .int (xI ((K : Int) + 1))), (0, .ref (ad 53)), (1, .int (xI z1)), (2, .int (xI (t2 : Int)))]) (k := 3) hx hb dX5_joined_66 hl rfl (by decide) rfl (fun ls hl => ?_)
              refine lv_goto (tgt := 29) hx hb dX5_joined_69 (by decide) ?_
              exact ih (K + 1) F5 en3 _ _ (by omega) (by show (sp_jh (sp_jn S.2.2.1 z1 K) z1 K).1 + (S.2.2.1.2.2.1 K - S.2.2.1.2.1 K) ≤ 200; omega) (fun j hj => by
      show F5 j = if j < (sp_jh (sp_jn S.2.2.1 z1 K) z1 K).1 then (sp_jh (sp_jn S.2.2.1 z1 K) z1 K).2 j else S.2.2.1.2.2.2 (S.2.2.1.2.1 K + (j - (sp_jh (sp_jn S.2.2.1 z1 K) z1 K).1))
      have hj : j < (sp_jh (sp_jn S.2.2.1 z1 K) z1 K).1 + (S.2.2.1.2.2.1 K - S.2.2.1.2.1 K) := hj
      by_cases q : j < (sp_jh (sp_jn S.2.2.1 z1 K) z1 K).1
      · rw [if_pos q, hA5 j q]; exact hH j q
      · rw [if_neg q]
        have q5 := hB5 (j - (sp_jh (sp_jn S.2.2.1 z1 K) z1 K).1) (by omega)
        rw [show (sp_jh (sp_jn S.2.2.1 z1 K) z1 K).1 + (j - (sp_jh (sp_jn S.2.2.1 z1 K) z1 K).1) = j by omega] at q5
        exact q5.trans (hk3 _ (by omega) (by omega))) (by omega) (show MW cA ad _ _ by rw [show (((sp_jn S.2.2.1 z1 (K + 1)).1 : Nat) : Int) = ((sp_jh (sp_jn S.2.2.1 z1 K) z1 K).1 : Int) + ((S.2.2.1.2.2.1 K - S.2.2.1.2.1 K : Nat) : Int) from by show (((sp_jh (sp_jn S.2.2.1 z1 K) z1 K).1 + (S.2.2.1.2.2.1 K - S.2.2.1.2.1 K) : Nat) : Int) = _; omega]; exact hM) ho hP hS ls (lv_sub hl [1, 2, 3, 0] rfl)
            · have hj5 : (sp_jn S.2.2.1 z1 K).1 + 1 = (sp_jh (sp_jn S.2.2.1 z1 K) z1 K).1 := by rw [sp_jh_s (by omega)]
              refine lv_aload_n hx hb dX5_joined_41 rfl (lv_at hl 0 rfl) ?_
              refine x_get (T := TX5) (N := 17) hx hb hts uX5 hown hK hP (i := 53) (by omega) (show ew29 53 = .inr (5, [.ref (ad 54), .ref (ad 55), .ref (ad 56), .ref (ad 57), .ref (ad 58), .int (xI ((sp_jn S.2.2.1 z1 K).1 : Int)), .ref (ad 59), .ref (ad 60), .ref (ad 61), .ref (ad 62), .int (xI M.parts), .ref (ad 63), .ref (ad 64), .ref (ad 65), .ref (ad 66), .ref (ad 67), .long M.h]) from hM.1) rfl 4 (by decide) u_fl_RX5_22 rfl dX5_joined_42 ?_
              refine lv_aload_n hx hb dX5_joined_45 rfl (lv_at hl 0 rfl) ?_
              refine x_get (T := TX5) (N := 17) hx hb hts uX5 hown hK hP (i := 53) (by omega) (show ew29 53 = .inr (5, [.ref (ad 54), .ref (ad 55), .ref (ad 56), .ref (ad 57), .ref (ad 58), .int (xI ((sp_jn S.2.2.1 z1 K).1 : Int)), .ref (ad 59), .ref (ad 60), .ref (ad 61), .ref (ad 62), .int (xI M.parts), .ref (ad 63), .ref (ad 64), .ref (ad 65), .ref (ad 66), .ref (ad 67), .long M.h]) from hM.1) rfl 5 (by decide) u_fl_RX5_62 rfl dX5_joined_46 ?_
              refine lv_iload_n hx hb dX5_joined_49 rfl (lv_at hl 1 rfl) ?_
              refine x_ist hx hb hK hP hD hS (i := 58) (by omega) hM.2.2.2.2.2.1 (by omega) dX5_joined_50 (fun H locs hP hS => ?_)
              obtain ⟨en4, he4⟩ : ∃ z, z = va_up ew29 58 (.inl (cA 0, 220, .inl (upd (fun k => xI (F k)) (Int.toNat ((sp_jn S.2.2.1 z1 K).1 : Int)) (xI z1)))) := ⟨_, rfl⟩
              have hP : va_P D vwCl (xw n ad en4) H := by rw [he4]; exact hP
              have hM : MW cA ad en4 (mO M.built M.builtMany M.told M.toldMany (sp_up F (Int.toNat ((sp_jn S.2.2.1 z1 K).1 : Int)) z1) ((sp_jn S.2.2.1 z1 K).1 : Int) M.figures M.partText M.partFrom M.partMany M.parts M.cut M.cutMany M.isCut M.cutGives M.cutAt M.h) := by rw [he4]; exact hM.u_row (Int.toNat ((sp_jn S.2.2.1 z1 K).1 : Int)) z1
              have ho : xO 53 68 en en4 := by rw [he4]; exact ho.up (by omega) (by omega)
              refine lv_aload_n hx hb dX5_joined_51 rfl (lv_at hl 0 rfl) ?_
              refine lv_dup hx hb dX5_joined_52 rfl ?_
              refine x_get (T := TX5) (N := 17) hx hb hts uX5 hown hK hP (i := 53) (by omega) (show en4 53 = .inr (5, [.ref (ad 54), .ref (ad 55), .ref (ad 56), .ref (ad 57), .ref (ad 58), .int (xI ((sp_jn S.2.2.1 z1 K).1 : Int)), .ref (ad 59), .ref (ad 60), .ref (ad 61), .ref (ad 62), .int (xI M.parts), .ref (ad 63), .ref (ad 64), .ref (ad 65), .ref (ad 66), .ref (ad 67), .long M.h]) from hM.1) rfl 5 (by decide) u_fl_RX5_62 rfl dX5_joined_53 ?_
              refine x_iconst hx hb dX5_joined_56 ?_
              refine x_iadd hx hb dX5_joined_57 ?_
              refine x_put (T := TX5) (N := 17) (ty := .int) hx hb hts uX5 tyX5 tyX5_ok nmX5 hown hK hP hD hS (i := 53) (by omega) (show en4 53 = .inr (5, [.ref (ad 54), .ref (ad 55), .ref (ad 56), .ref (ad 57), .ref (ad 58), .int (xI ((sp_jn S.2.2.1 z1 K).1 : Int)), .ref (ad 59), .ref (ad 60), .ref (ad 61), .ref (ad 62), .int (xI M.parts), .ref (ad 63), .ref (ad 64), .ref (ad 65), .ref (ad 66), .ref (ad 67), .long M.h]) from hM.1) rfl 5 (by decide) u_fl_RX5_62 rfl (by decide +kernel) rfl rfl (by show 5 < 17; decide) dX5_joined_58 (fun H locs hP hS => ?_)
              obtain ⟨en5, he5⟩ : ∃ z, z = va_up en4 53 (.inr (5, [.ref (ad 54), .ref (ad 55), .ref (ad 56), .ref (ad 57), .ref (ad 58), .int (xI (((sp_jn S.2.2.1 z1 K).1 : Int) + 1)), .ref (ad 59), .ref (ad 60), .ref (ad 61), .ref (ad 62), .int (xI M.parts), .ref (ad 63), .ref (ad 64), .ref (ad 65), .ref (ad 66), .ref (ad 67), .long M.h])) := ⟨_, rfl⟩
              have hP : va_P D vwCl (xw n ad en5) H := by rw [he5]; exact hP
              have hM : MW cA ad en5 (mO M.built M.builtMany M.told M.toldMany (sp_up F (Int.toNat ((sp_jn S.2.2.1 z1 K).1 : Int)) z1) (((sp_jn S.2.2.1 z1 K).1 : Int) + 1) M.figures M.partText M.partFrom M.partMany M.parts M.cut M.cutMany M.isCut M.cutGives M.cutAt M.h) := by rw [he5]; exact hM.s_rowMany (((sp_jn S.2.2.1 z1 K).1 : Int) + 1)
              have ho : xO 53 68 en en5 := by rw [he5]; exact ho.up (by omega) (by omega)
              have hj5 : (sp_jn S.2.2.1 z1 K).1 + 1 = (sp_jh (sp_jn S.2.2.1 z1 K) z1 K).1 := by rw [sp_jh_s (by omega)]
              have hH : ∀ j : Nat, j < (sp_jh (sp_jn S.2.2.1 z1 K) z1 K).1 → (sp_up F (Int.toNat ((sp_jn S.2.2.1 z1 K).1 : Int)) z1) j = (sp_jh (sp_jn S.2.2.1 z1 K) z1 K).2 j := fun j hj => by
                rw [sp_jh_s (by omega)] at hj ⊢
                show (sp_up F (Int.toNat ((sp_jn S.2.2.1 z1 K).1 : Int)) z1) j = sp_up (sp_jn S.2.2.1 z1 K).2 (sp_jn S.2.2.1 z1 K).1 z1 j
                rw [Int.toNat_natCast]
                by_cases q : j = (sp_jn S.2.2.1 z1 K).1
                · rw [q, sp_up_s, sp_up_s]
                · rw [sp_up_n _ _ q, sp_up_n _ _ q]; exact hF j (by omega)
              have hM : MW cA ad en5 (mO M.built M.builtMany M.told M.toldMany (sp_up F (Int.toNat ((sp_jn S.2.2.1 z1 K).1 : Int)) z1) ((sp_jh (sp_jn S.2.2.1 z1 K) z1 K).1 : Int) M.figures M.partText M.partFrom M.partMany M.parts M.cut M.cutMany M.isCut M.cutGives M.cutAt M.h) := by rw [show ((sp_jh (sp_jn S.2.2.1 z1 K) z1 K).1 : Int) = ((sp_jn S.2.2.1 z1 K).1 : Int) + 1 by omega]; exact hM
              refine lv_aload_n hx hb dX5_joined_61 rfl (lv_at hl 0 rfl) ?_
              refine lv_iload_n hx hb dX5_joined_62 rfl (lv_at hl 3 rfl) ?_
              have hpe := hwb K (by omega)
              have hps := hwp.2.1 K (by omega)
              obtain ⟨hk1, hk2, hk3⟩ := hpk K (by omega)
              refine xm_v (i := 53) (As := [.int (xI (K : Int))]) (rest := []) ⟨hx, hb, hml, hown, hts⟩ hl.1 (c_X5_addPart l D cA n ad en5 _ hn hM K (by omega) (S.2.2.1.2.1 K) (S.2.2.1.2.2.1 K - S.2.2.1.2.1 K) hk1 (show M.partMany K = ((S.2.2.1.2.2.1 K - S.2.2.1.2.1 K : Nat) : Int) from by omega) (by omega) (sp_jh (sp_jn S.2.2.1 z1 K) z1 K).1 (show ((sp_jh (sp_jn S.2.2.1 z1 K) z1 K).1 : Int) = (((sp_jh (sp_jn S.2.2.1 z1 K) z1 K).1 : Nat) : Int) from rfl) (by omega)) k_X5_addPart u_ml_RX5_157 hK hN hP (by omega) (show en5 53 = .inr (5, [.ref (ad 54), .ref (ad 55), .ref (ad 56), .ref (ad 57), .ref (ad 58), .int (xI ((sp_jh (sp_jn S.2.2.1 z1 K) z1 K).1 : Int)), .ref (ad 59), .ref (ad 60), .ref (ad 61), .ref (ad 62), .int (xI M.parts), .ref (ad 63), .ref (ad 64), .ref (ad 65), .ref (ad 66), .ref (ad 67), .long M.h]) from hM.1) rfl rfl rfl rfl (Nat.le_of_ble_eq_true rfl) ⟨Nat.le_of_ble_eq_true rfl, Nat.le_of_ble_eq_true rfl⟩ ⟨Nat.le_of_ble_eq_true rfl, Nat.le_of_ble_eq_true rfl⟩ dX5_joined_63 hD hS hA (fun en6 H locs hp6 hP hS => ?_)
              obtain ⟨F5, hA5, hB5, hM, ho2⟩ := hp6
              have hM : MW cA ad en6 (mO M.built M.builtMany M.told M.toldMany F5 (((sp_jh (sp_jn S.2.2.1 z1 K) z1 K).1 : Int) + ((S.2.2.1.2.2.1 K - S.2.2.1.2.1 K : Nat) : Int)) M.figures M.partText M.partFrom M.partMany M.parts M.cut M.cutMany M.isCut M.cutGives M.cutAt M.h) := hM
              have ho := ho.tr ho2
              have hA5 : ∀ j : Nat, j < (sp_jh (sp_jn S.2.2.1 z1 K) z1 K).1 → F5 j = (sp_up F (Int.toNat ((sp_jn S.2.2.1 z1 K).1 : Int)) z1) j := hA5
              have hB5 : ∀ i : Nat, i < S.2.2.1.2.2.1 K - S.2.2.1.2.1 K → F5 ((sp_jh (sp_jn S.2.2.1 z1 K) z1 K).1 + i) = M.partText (S.2.2.1.2.1 K + i) := hB5
              refine x_iinc (lv' := [(3, .int (xI ((K : Int) + 1))), (0, .ref (ad 53)), (1, .int (xI z1)), (2, .int (xI (t2 : Int)))]) (k := 3) hx hb dX5_joined_66 hl rfl (by decide) rfl (fun ls hl => ?_)
              refine lv_goto (tgt := 29) hx hb dX5_joined_69 (by decide) ?_
              exact ih (K + 1) F5 en6 _ _ (by omega) (by show (sp_jh (sp_jn S.2.2.1 z1 K) z1 K).1 + (S.2.2.1.2.2.1 K - S.2.2.1.2.1 K) ≤ 200; omega) (fun j hj => by
      show F5 j = if j < (sp_jh (sp_jn S.2.2.1 z1 K) z1 K).1 then (sp_jh (sp_jn S.2.2.1 z1 K) z1 K).2 j else S.2.2.1.2.2.2 (S.2.2.1.2.1 K + (j - (sp_jh (sp_jn S.2.2.1 z1 K) z1 K).1))
      have hj : j < (sp_jh (sp_jn S.2.2.1 z1 K) z1 K).1 + (S.2.2.1.2.2.1 K - S.2.2.1.2.1 K) := hj
      by_cases q : j < (sp_jh (sp_jn S.2.2.1 z1 K) z1 K).1
      · rw [if_pos q, hA5 j q]; exact hH j q
      · rw [if_neg q]
        have q5 := hB5 (j - (sp_jh (sp_jn S.2.2.1 z1 K) z1 K).1) (by omega)
        rw [show (sp_jh (sp_jn S.2.2.1 z1 K) z1 K).1 + (j - (sp_jh (sp_jn S.2.2.1 z1 K) z1 K).1) = j by omega] at q5
        exact q5.trans (hk3 _ (by omega) (by omega))) (by omega) (show MW cA ad _ _ by rw [show (((sp_jn S.2.2.1 z1 (K + 1)).1 : Nat) : Int) = ((sp_jh (sp_jn S.2.2.1 z1 K) z1 K).1 : Int) + ((S.2.2.1.2.2.1 K - S.2.2.1.2.1 K : Nat) : Int) from by show (((sp_jh (sp_jn S.2.2.1 z1 K) z1 K).1 + (S.2.2.1.2.2.1 K - S.2.2.1.2.1 K) : Nat) : Int) = _; omega]; exact hM) ho hP hS ls (lv_sub hl [1, 2, 3, 0] rfl)
      exact L29 _ 0 M.row en1 _ _ (Nat.zero_le _) (Nat.zero_le _) (fun j hj => absurd hj (Nat.not_lt_zero _)) (Nat.lt_succ_self _) hM ho hP hS ls (lv_sub hl [1, 2, 3, 0] rfl)
    · refine x_sipush hx hb dX5_joined_18 (by decide +kernel) ?_
      exact xe_i hx hb hrt hlocks hP hS ((by unfold am_joined; simp only [Int.toNat_natCast]; rw [sp_if_f (by omega), sp_if_t (by omega)]; exact ⟨rfl, _, hM, hR, ho⟩)) dX5_joined_21
  · obtain ⟨wn, hwn, hwb⟩ := hW.2.2.1
    have hwm : wn ≤ 200 := hwn.1
    have hwp := hW.2.2.2.1
    have hwq := hwp.1
    have hpn : M.parts = (S.2.2.1.1 : Int) := hR.2.2.1.1
    have hpk := hR.2.2.1.2
    refine lv_iload_n hx hb dX5_joined_0 rfl (lv_at hl 2 rfl) ?_
    refine xt_i (As := [.int (xI z2)]) (rest := []) ⟨hx, hb, hml, hown, hts⟩ hl.1 (c_X5_isText l z2 (by omega)) k_X5_isText u_ml_RX5_87 rfl rfl (Nat.le_of_ble_eq_true rfl) ⟨Nat.le_of_ble_eq_true rfl, Nat.le_of_ble_eq_true rfl⟩ ⟨Nat.le_of_ble_eq_true rfl, Nat.le_of_ble_eq_true rfl⟩ dX5_joined_1 ?_
    refine x_top (q1 := False) ⟨fun h => absurd h (by omega), False.elim⟩ ?_
    refine x_ifb_ne (tgt := 11) hx hb dX5_joined_4 (by decide)  (fun c_4 => absurd c_4 id) (fun c_4 => ?_)
    refine x_sipush hx hb dX5_joined_7 (by decide +kernel) ?_
    exact xe_i hx hb hrt hlocks hP hS ((by unfold am_joined; rw [sp_if_t (by omega)]; exact ⟨rfl, _, hM, hR, ho⟩)) dX5_joined_10
