theorem sp_by_s (w : Int64) {k : Nat} (hk : k < 8) : ((w >>> ((xI (8 * (k : Int))).toInt64 &&& 63)) &&& xL 255).toInt32 = xI (sp_by w k) := by
  have a0 : ∀ y : Int64, (y &&& xL 255).toInt32 = y.toInt32 &&& xI 255 := fun y => by
    apply Int32.toBitVec.inj
    show BitVec.signExtend 32 (y.toBitVec &&& (xL 255).toBitVec) = BitVec.signExtend 32 y.toBitVec &&& (xI 255).toBitVec
    rw [BitVec.signExtend_eq_setWidth_of_le _ (by decide), BitVec.signExtend_eq_setWidth_of_le _ (by decide), BitVec.setWidth_and, show BitVec.setWidth 32 (xL 255).toBitVec = (xI 255).toBitVec by decide +kernel]
  rw [a0]
  have e1 : (w >>> ((xI (8 * (k : Int))).toInt64 &&& 63)).toBitVec = w.toBitVec.sshiftRight (8 * k) := by
    have e0 : ((((xI (8 * (k : Int))).toInt64 &&& 63).toBitVec).smod 64).toNat = 8 * k := by
      rcases (show k = 0 ∨ k = 1 ∨ k = 2 ∨ k = 3 ∨ k = 4 ∨ k = 5 ∨ k = 6 ∨ k = 7 by omega) with rfl | rfl | rfl | rfl | rfl | rfl | rfl | rfl <;> decide +kernel
    show w.toBitVec.sshiftRight ((((xI (8 * (k : Int))).toInt64 &&& 63).toBitVec).smod 64).toNat = _
    rw [e0]
  generalize w >>> ((xI (8 * (k : Int))).toInt64 &&& 63) = y at e1 ⊢
  have e3 : y.toBitVec.toInt = w.toBitVec.toInt / ((2 ^ (8 * k) : Nat) : Int) := by rw [e1, BitVec.toInt_sshiftRight, Int.shiftRight_eq_div_pow]
  rw [BitVec.toInt_eq_toNat_cond, BitVec.toInt_eq_toNat_cond] at e3
  have h1 := y.toBitVec.isLt
  have h2 := w.toBitVec.isLt
  have e2 : y.toBitVec.toNat % 256 = (w.toBitVec.toNat / 2 ^ (8 * k)) % 256 := by
    clear e1
    rcases (show k = 0 ∨ k = 1 ∨ k = 2 ∨ k = 3 ∨ k = 4 ∨ k = 5 ∨ k = 6 ∨ k = 7 by omega) with rfl | rfl | rfl | rfl | rfl | rfl | rfl | rfl
    · rw [show (2 : Nat) ^ (8 * 0) = 1 from rfl] at e3 ⊢
      split at e3 <;> split at e3 <;> omega
    · rw [show (2 : Nat) ^ (8 * 1) = 256 from rfl] at e3 ⊢
      split at e3 <;> split at e3 <;> omega
    · rw [show (2 : Nat) ^ (8 * 2) = 65536 from rfl] at e3 ⊢
      split at e3 <;> split at e3 <;> omega
    · rw [show (2 : Nat) ^ (8 * 3) = 16777216 from rfl] at e3 ⊢
      split at e3 <;> split at e3 <;> omega
    · rw [show (2 : Nat) ^ (8 * 4) = 4294967296 from rfl] at e3 ⊢
      split at e3 <;> split at e3 <;> omega
    · rw [show (2 : Nat) ^ (8 * 5) = 1099511627776 from rfl] at e3 ⊢
      split at e3 <;> split at e3 <;> omega
    · rw [show (2 : Nat) ^ (8 * 6) = 281474976710656 from rfl] at e3 ⊢
      split at e3 <;> split at e3 <;> omega
    · rw [show (2 : Nat) ^ (8 * 7) = 72057594037927936 from rfl] at e3 ⊢
      split at e3 <;> split at e3 <;> omega
  have e4 : y.toInt32 &&& xI 255 = nI (y.toInt32.toBitVec.toNat % 2 ^ 8) := pk_and _ 8 (by decide +kernel)
  rw [e4]
  have e6 : y.toInt32.toBitVec.toNat % 2 ^ 8 = (w.toBitVec.toNat / 2 ^ (8 * k)) % 256 := by
    have e5 : y.toInt32.toBitVec.toNat = y.toBitVec.toNat % 2 ^ 32 := by
      show (BitVec.signExtend 32 y.toBitVec).toNat = _
      rw [BitVec.signExtend_eq_setWidth_of_le _ (by decide), BitVec.toNat_setWidth]
    rw [e5]
    omega
  rw [e6]
  exact xI_nat _

theorem m_full {S : xSt} {M : MO} {b a d k9 : Nat} {r0 : xRow} (hR : MR S M) (had : a ≤ d) (hd : d ≤ (S.1 b).1) (hk : r0.1 = k9) (hle : 200 < ((S.1 b).1 : Int) - ((d : Int) - (a : Int)) + (k9 : Int)) : xI (-1007) = xI (sp_edt S b a d r0).1 ∧ MR (sp_edt S b a d r0).2 M := by
  unfold sp_edt
  rw [if_pos (by omega)]
  exact ⟨rfl, hR⟩
theorem m_edt {S : xSt} {M : MO} {b a d k9 : Nat} {F9 ROW : Nat → Int} {z : Int} {r0 : xRow} (hR : MR S M) (hW : WF S) (hb : b < 4) (had : a ≤ d) (hd : d ≤ (S.1 b).1) (hk : r0.1 = k9) (hle : ((S.1 b).1 : Int) - ((d : Int) - (a : Int)) + (k9 : Int) ≤ 200) (hz : z = ((S.1 b).1 : Int) - ((d : Int) - (a : Int)) + (k9 : Int)) (hF : ∀ j : Nat, j < (S.1 b).1 - (d - a) + k9 → F9 (200 * b + j) = sp_ed (fun q => M.built (200 * b + q)) a d ROW 0 k9 j) (hG : ∀ j : Nat, j < 200 * b ∨ 200 * b + 200 ≤ j → F9 j = M.built j) (hRO : ∀ k : Nat, k < k9 → ROW k = r0.2 k) : xI z = xI (sp_edt S b a d r0).1 ∧ MR (sp_edt S b a d r0).2 (mO F9 (sp_up M.builtMany b z) M.told M.toldMany M.row M.rowMany M.figures M.partText M.partFrom M.partMany M.parts M.cut M.cutMany M.isCut M.cutGives M.cutAt M.h) := by
  subst hk
  unfold sp_edt
  rw [if_neg (by omega)]
  refine ⟨by rw [hz]; exact congrArg xI (by omega), hR.builder hW hb (by omega) (fun k hk => (hF k (by omega)).trans ?_) hG⟩
  simp only [sp_ed]
  by_cases q1 : k < a
  · rw [if_pos q1, if_pos q1]
    exact (hR.1 b hb).2 k (by omega)
  · rw [if_neg q1, if_neg q1]
    by_cases q2 : k < a + r0.1
    · rw [if_pos q2, if_pos q2]
      exact hRO _ (by omega)
    · rw [if_neg q2, if_neg q2]
      exact (hR.1 b hb).2 _ (by omega)
