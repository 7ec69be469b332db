/-! what each call answers, and what becomes of the state -/
noncomputable def sp_if {α : Type} (p : Prop) (a b : α) : α := @ite α p (Classical.propDecidable p) a b
theorem sp_if_t {α : Type} {p : Prop} {a b : α} (h : p) : sp_if p a b = a := if_pos h
theorem sp_if_f {α : Type} {p : Prop} {a b : α} (h : ¬ p) : sp_if p a b = b := if_neg h
def sp_get (S : xSt) (t : Nat) : xRow := (S.2.1 t).getD (0, fun _ => 0)
def sp_told (S : xSt) (t : Nat) : xRow := (S.2.1 t).getD (4, sp_four)
def sp_getc (S : xSt) (c : Nat) : xCut := (S.2.2.2 c).getD ((0, fun _ => 0), fun _ => False, False, 0)
theorem sp_get_s {S : xSt} {t : Nat} {r : xRow} (h : S.2.1 t = some r) : sp_get S t = r := by unfold sp_get; rw [h]; rfl
theorem sp_told_s {S : xSt} {t : Nat} {r : xRow} (h : S.2.1 t = some r) : sp_told S t = r := by unfold sp_told; rw [h]; rfl
theorem sp_told_n {S : xSt} {t : Nat} (h : S.2.1 t = none) : sp_told S t = (4, sp_four) := by unfold sp_told; rw [h]; rfl
theorem sp_getc_s {S : xSt} {t : Nat} {r : xCut} (h : S.2.2.2 t = some r) : sp_getc S t = r := by unfold sp_getc; rw [h]; rfl
/-- a builder's signs from a up to b dropped, a row joined in -/
def sp_edt (S : xSt) (b a e : Nat) (r : xRow) : Int × xSt := if 200 < (S.1 b).1 - (e - a) + r.1 then (-1007, S) else ((((S.1 b).1 - (e - a) + r.1 : Nat) : Int), (sp_up S.1 b ((S.1 b).1 - (e - a) + r.1, sp_ed (S.1 b).2 a e r.2 0 r.1), S.2))
def sp_app (S : xSt) (b : Nat) (r : xRow) : Int × xSt := sp_edt S b (S.1 b).1 (S.1 b).1 r
def sp_sg (z : Int) : Int := if 0 < z then 1 else if z < 0 then -1 else 0
noncomputable def sp_ta (f : Nat → Int) (m : Int) : Int := sp_while (fun q : Int => f q.toNat ≤ 32) 0 m
noncomputable def sp_tb (f : Nat → Int) (m : Int) : Int := sp_back (fun q : Int => f q.toNat ≤ 32) (sp_ta f m) m
noncomputable def sp_trm (S : xSt) (r : xRow) (u : Nat) : Int × xSt := (sp_tb r.2 r.1 - sp_ta r.2 r.1, (S.1, sp_up S.2.1 u (some ((sp_tb r.2 r.1 - sp_ta r.2 r.1).toNat, fun q => r.2 ((sp_ta r.2 r.1).toNat + q))), S.2.2))
/-- the parts, joined by a sign -/
def sp_jh (r : xRow) (z : Int) (k : Nat) : xRow := if 0 < k then (r.1 + 1, sp_up r.2 r.1 z) else r
def sp_ja (r : xRow) (P : xPts) (k : Nat) : xRow := (r.1 + (P.2.2.1 k - P.2.1 k), fun t => if t < r.1 then r.2 t else P.2.2.2 (P.2.1 k + (t - r.1)))
def sp_jn (P : xPts) (z : Int) : Nat → xRow
  | 0 => (0, fun _ => 0)
  | k + 1 => sp_ja (sp_jh (sp_jn P z k) z k) P k
noncomputable def sp_more (q : xCut) : Int := xd (sp_ts q.2.2.1 q.2.1 q.1.2 (q.1.1 : Int) (q.2.2.2 : Int) < (q.1.1 : Int))
noncomputable def sp_lft (q : xCut) : Int := sp_left q.2.2.1 q.2.1 q.1.2 (q.1.1 : Int) (q.2.2.2 : Int)
noncomputable def sp_ct (q : xCut) : Int := sp_ts q.2.2.1 q.2.1 q.1.2 (q.1.1 : Int) (q.2.2.2 : Int)
noncomputable def sp_ce (q : xCut) : Int := sp_te q.2.1 q.1.2 (q.1.1 : Int) (sp_ct q)
noncomputable def sp_nxt (S : xSt) (c t : Nat) (q : xCut) : Int × xSt := if (q.1.1 : Int) ≤ sp_ct q then (-1006, (S.1, S.2.1, S.2.2.1, sp_up S.2.2.2 c none)) else (sp_ce q - sp_ct q, (S.1, sp_up S.2.1 t (some ((sp_ce q - sp_ct q).toNat, fun k => q.1.2 ((sp_ct q).toNat + k))), S.2.2.1, sp_up S.2.2.2 c (some (q.1, q.2.1, q.2.2.1, (sp_ce q).toNat))))
/-- the digest -/
def sp_db (S : xSt) : Nat → Int64
  | 0 => xL 17
  | b + 1 => sp_hs (S.1 b).2 (sp_mix (sp_db S b) ((S.1 b).1 : Int)) 0 (S.1 b).1
def sp_dtr (o : Option xRow) (h : Int64) : Int64 := match o with
  | none => sp_mix h (-1)
  | some r => sp_hs r.2 (sp_mix h (r.1 : Int)) 0 r.1
def sp_dt (S : xSt) : Nat → Int64
  | 0 => sp_db S 4
  | t + 1 => sp_dtr (S.2.1 t) (sp_dt S t)
def sp_dp (S : xSt) : Nat → Int64
  | 0 => sp_mix (sp_dt S 8) (S.2.2.1.1 : Int)
  | k + 1 => sp_hs S.2.2.1.2.2.2 (sp_mix (sp_dp S k) ((S.2.2.1.2.2.1 k : Int) - (S.2.2.1.2.1 k : Int))) (S.2.2.1.2.1 k) (S.2.2.1.2.2.1 k - S.2.2.1.2.1 k)
noncomputable def sp_dcr (o : Option xCut) : Int := match o with
  | none => -1
  | some q => sp_lft q
noncomputable def sp_dc (S : xSt) : Nat → Int64
  | 0 => sp_dp S S.2.2.1.1
  | c + 1 => sp_mix (sp_dc S c) (sp_dcr (S.2.2.2 c))
noncomputable def am_digest (S : xSt) : Int64 := sp_dc S 2
noncomputable def am_sign (S : xSt) (z1 : Int) (z2 : Int) : Int × xSt := sp_if (¬ (0 ≤ z1 ∧ z1 < 4)) ((-1001, S)) (sp_if (¬ (0 ≤ z2 ∧ z2 < 256)) ((-1002, S)) (sp_app S z1.toNat (1, fun _ => z2)))
noncomputable def am_signs (S : xSt) (z1 : Int) (z2 : Int) (z3 : Int64) : Int × xSt := sp_if (¬ (0 ≤ z1 ∧ z1 < 4)) ((-1001, S)) (sp_if (¬ (0 ≤ z2 ∧ z2 ≤ 8)) ((-1002, S)) (sp_app S z1.toNat (z2.toNat, fun q => sp_by z3 (z2.toNat - 1 - q))))
noncomputable def am_text (S : xSt) (z1 : Int) (z2 : Int) : Int × xSt := sp_if (¬ ((0 ≤ z1 ∧ z1 < 4) ∧ (0 ≤ z2 ∧ z2 < 8))) ((-1001, S)) (sp_app S z1.toNat (sp_told S z2.toNat))
noncomputable def am_part (S : xSt) (z1 : Int) (z2 : Int) (z3 : Int) (z4 : Int) : Int × xSt := sp_if (¬ ((0 ≤ z1 ∧ z1 < 4) ∧ (0 ≤ z2 ∧ z2 < 8))) ((-1001, S)) (sp_if (¬ (0 ≤ z3 ∧ z3 ≤ z4 ∧ z4 ≤ ((sp_told S z2.toNat).1 : Int))) ((-1005, S)) (sp_app S z1.toNat ((z4 - z3).toNat, fun q => (sp_told S z2.toNat).2 (z3.toNat + q))))
noncomputable def am_number (S : xSt) (z1 : Int) (z2 : Int) : Int × xSt := sp_if (¬ (0 ≤ z1 ∧ z1 < 4)) ((-1001, S)) (sp_app S z1.toNat (sp_nn z2, sp_nf z2))
noncomputable def am_insert (S : xSt) (z1 : Int) (z2 : Int) (z3 : Int) : Int × xSt := sp_if (¬ ((0 ≤ z1 ∧ z1 < 4) ∧ (0 ≤ z3 ∧ z3 < 8))) ((-1001, S)) (sp_if (¬ (0 ≤ z2 ∧ z2 ≤ ((S.1 z1.toNat).1 : Int))) ((-1005, S)) (sp_edt S z1.toNat z2.toNat z2.toNat (sp_told S z3.toNat)))
noncomputable def am_insertPart (S : xSt) (z1 : Int) (z2 : Int) (z3 : Int) (z4 : Int) (z5 : Int) : Int × xSt := sp_if (¬ ((0 ≤ z1 ∧ z1 < 4) ∧ (0 ≤ z3 ∧ z3 < 8))) ((-1001, S)) (sp_if (¬ ((0 ≤ z2 ∧ z2 ≤ ((S.1 z1.toNat).1 : Int)) ∧ 0 ≤ z4 ∧ z4 ≤ z5 ∧ z5 ≤ ((sp_told S z3.toNat).1 : Int))) ((-1005, S)) (sp_edt S z1.toNat z2.toNat z2.toNat ((z5 - z4).toNat, fun q => (sp_told S z3.toNat).2 (z4.toNat + q))))
noncomputable def am_insertSign (S : xSt) (z1 : Int) (z2 : Int) (z3 : Int) : Int × xSt := sp_if (¬ (0 ≤ z1 ∧ z1 < 4)) ((-1001, S)) (sp_if (¬ (0 ≤ z3 ∧ z3 < 256)) ((-1002, S)) (sp_if (¬ (0 ≤ z2 ∧ z2 ≤ ((S.1 z1.toNat).1 : Int))) ((-1005, S)) (sp_edt S z1.toNat z2.toNat z2.toNat (1, fun _ => z3))))
noncomputable def am_delete (S : xSt) (z1 : Int) (z2 : Int) (z3 : Int) : Int × xSt := sp_if (¬ (0 ≤ z1 ∧ z1 < 4)) ((-1001, S)) (sp_if (¬ ((0 ≤ z2 ∧ z2 ≤ ((S.1 z1.toNat).1 : Int)) ∧ z2 ≤ z3)) ((-1005, S)) (sp_edt S z1.toNat z2.toNat (min z3 ((S.1 z1.toNat).1 : Int)).toNat (0, fun _ => 0)))
noncomputable def am_deleteAt (S : xSt) (z1 : Int) (z2 : Int) : Int × xSt := sp_if (¬ (0 ≤ z1 ∧ z1 < 4)) ((-1001, S)) (sp_if (¬ (0 ≤ z2 ∧ z2 < ((S.1 z1.toNat).1 : Int))) ((-1005, S)) (sp_edt S z1.toNat z2.toNat (z2.toNat + 1) (0, fun _ => 0)))
noncomputable def am_replace (S : xSt) (z1 : Int) (z2 : Int) (z3 : Int) (z4 : Int) : Int × xSt := sp_if (¬ ((0 ≤ z1 ∧ z1 < 4) ∧ (0 ≤ z4 ∧ z4 < 8))) ((-1001, S)) (sp_if (S.2.1 z4.toNat = none) ((-1003, S)) (sp_if (¬ ((0 ≤ z2 ∧ z2 ≤ ((S.1 z1.toNat).1 : Int)) ∧ z2 ≤ z3)) ((-1005, S)) (sp_edt S z1.toNat z2.toNat (min z3 ((S.1 z1.toNat).1 : Int)).toNat (sp_get S z4.toNat))))
noncomputable def am_reverse (S : xSt) (z1 : Int) : Int × xSt := sp_if (¬ (0 ≤ z1 ∧ z1 < 4)) ((-1001, S)) ((((S.1 z1.toNat).1 : Int), (sp_up S.1 z1.toNat ((S.1 z1.toNat).1, fun q => (S.1 z1.toNat).2 ((S.1 z1.toNat).1 - 1 - q)), S.2)))
noncomputable def am_put (S : xSt) (z1 : Int) (z2 : Int) (z3 : Int) : Int × xSt := sp_if (¬ (0 ≤ z1 ∧ z1 < 4)) ((-1001, S)) (sp_if (¬ (0 ≤ z3 ∧ z3 < 256)) ((-1002, S)) (sp_if (¬ (0 ≤ z2 ∧ z2 < ((S.1 z1.toNat).1 : Int))) ((-1005, S)) (((S.1 z1.toNat).2 z2.toNat, (sp_up S.1 z1.toNat ((S.1 z1.toNat).1, sp_up (S.1 z1.toNat).2 z2.toNat z3), S.2)))))
noncomputable def am_length (S : xSt) (z1 : Int) (z2 : Int) : Int × xSt := sp_if (¬ (0 ≤ z1 ∧ z1 < 4)) ((-1001, S)) (sp_if (z2 < 0) ((-1004, S)) (sp_if (200 < z2) ((-1007, S)) ((((S.1 z1.toNat).1 : Int), (sp_up S.1 z1.toNat (z2.toNat, fun q => if q < (S.1 z1.toNat).1 then (S.1 z1.toNat).2 q else 0), S.2)))))
noncomputable def am_at (S : xSt) (z1 : Int) (z2 : Int) : Int := sp_if (¬ (0 ≤ z1 ∧ z1 < 4)) (-1001) (sp_if (¬ (0 ≤ z2 ∧ z2 < ((S.1 z1.toNat).1 : Int))) (-1005) ((S.1 z1.toNat).2 z2.toNat))
noncomputable def am_size (S : xSt) (z1 : Int) : Int := sp_if (¬ (0 ≤ z1 ∧ z1 < 4)) (-1001) (((S.1 z1.toNat).1 : Int))
noncomputable def am_first (S : xSt) (z1 : Int) (z2 : Int) (z3 : Int) : Int := sp_if (¬ ((0 ≤ z1 ∧ z1 < 4) ∧ (0 ≤ z2 ∧ z2 < 8))) (-1001) (sp_if (S.2.1 z2.toNat = none) (-1003) (sp_find (sp_st (S.1 z1.toNat).2 (S.1 z1.toNat).1 (sp_get S z2.toNat).2 (sp_get S z2.toNat).1) (max 0 (min z3 ((S.1 z1.toNat).1 : Int))) (((S.1 z1.toNat).1 : Int) + 1)))
noncomputable def am_last (S : xSt) (z1 : Int) (z2 : Int) (z3 : Int) : Int := sp_if (¬ ((0 ≤ z1 ∧ z1 < 4) ∧ (0 ≤ z2 ∧ z2 < 8))) (-1001) (sp_if (S.2.1 z2.toNat = none) (-1003) (sp_rfind (sp_st (S.1 z1.toNat).2 (S.1 z1.toNat).1 (sp_get S z2.toNat).2 (sp_get S z2.toNat).1) (min z3 ((S.1 z1.toNat).1 : Int))))
noncomputable def am_take (S : xSt) (z1 : Int) (z2 : Int) (z3 : Int) (z4 : Int) : Int × xSt := sp_if (¬ ((0 ≤ z1 ∧ z1 < 4) ∧ (0 ≤ z4 ∧ z4 < 8))) ((-1001, S)) (sp_if (¬ (0 ≤ z2 ∧ z2 ≤ z3 ∧ z3 ≤ ((S.1 z1.toNat).1 : Int))) ((-1005, S)) ((z3 - z2, (S.1, sp_up S.2.1 z4.toNat (some ((z3 - z2).toNat, fun q => (S.1 z1.toNat).2 (z2.toNat + q))), S.2.2))))
noncomputable def am_ahead (S : xSt) (z1 : Int) (z2 : Int) : Int := sp_if (¬ ((0 ≤ z1 ∧ z1 < 4) ∧ (0 ≤ z2 ∧ z2 < 4))) (-1001) (sp_sg (sp_ord (S.1 z1.toNat).2 (S.1 z2.toNat).2 (((S.1 z1.toNat).1 : Int) - ((S.1 z2.toNat).1 : Int)) 0 (min ((S.1 z1.toNat).1 : Int) ((S.1 z2.toNat).1 : Int))))
noncomputable def am_forget (S : xSt) (z1 : Int) : Int × xSt := sp_if (¬ (0 ≤ z1 ∧ z1 < 8)) ((-1001, S)) (sp_if (S.2.1 z1.toNat = none) ((0, S)) ((1, (S.1, sp_up S.2.1 z1.toNat none, S.2.2))))
noncomputable def am_textSize (S : xSt) (z1 : Int) : Int := sp_if (¬ (0 ≤ z1 ∧ z1 < 8)) (-1001) (sp_if (S.2.1 z1.toNat = none) (-1) (((sp_get S z1.toNat).1 : Int)))
noncomputable def am_signAt (S : xSt) (z1 : Int) (z2 : Int) : Int := sp_if (¬ (0 ≤ z1 ∧ z1 < 8)) (-1001) (sp_if (S.2.1 z1.toNat = none) (-1003) (sp_if (¬ (0 ≤ z2 ∧ z2 < ((sp_get S z1.toNat).1 : Int))) (-1005) ((sp_get S z1.toNat).2 z2.toNat)))
noncomputable def am_firstSign (S : xSt) (z1 : Int) (z2 : Int) (z3 : Int) : Int := sp_if (¬ (0 ≤ z1 ∧ z1 < 8)) (-1001) (sp_if (¬ (0 ≤ z2 ∧ z2 < 256)) (-1002) (sp_if (S.2.1 z1.toNat = none) (-1003) (sp_find (fun q : Int => (sp_get S z1.toNat).2 q.toNat = z2) (max 0 z3) ((sp_get S z1.toNat).1 : Int))))
noncomputable def am_lastSign (S : xSt) (z1 : Int) (z2 : Int) (z3 : Int) : Int := sp_if (¬ (0 ≤ z1 ∧ z1 < 8)) (-1001) (sp_if (¬ (0 ≤ z2 ∧ z2 < 256)) (-1002) (sp_if (S.2.1 z1.toNat = none) (-1003) (sp_rfind (fun q : Int => (sp_get S z1.toNat).2 q.toNat = z2) (min z3 (((sp_get S z1.toNat).1 : Int) - 1)))))
noncomputable def am_firstText (S : xSt) (z1 : Int) (z2 : Int) (z3 : Int) : Int := sp_if (¬ ((0 ≤ z1 ∧ z1 < 8) ∧ (0 ≤ z2 ∧ z2 < 8))) (-1001) (sp_if (S.2.1 z1.toNat = none ∨ S.2.1 z2.toNat = none) (-1003) (sp_find (sp_st (sp_get S z1.toNat).2 (sp_get S z1.toNat).1 (sp_get S z2.toNat).2 (sp_get S z2.toNat).1) (max 0 (min z3 ((sp_get S z1.toNat).1 : Int))) (((sp_get S z1.toNat).1 : Int) + 1)))
noncomputable def am_lastText (S : xSt) (z1 : Int) (z2 : Int) (z3 : Int) : Int := sp_if (¬ ((0 ≤ z1 ∧ z1 < 8) ∧ (0 ≤ z2 ∧ z2 < 8))) (-1001) (sp_if (S.2.1 z1.toNat = none ∨ S.2.1 z2.toNat = none) (-1003) (sp_rfind (sp_st (sp_get S z1.toNat).2 (sp_get S z1.toNat).1 (sp_get S z2.toNat).2 (sp_get S z2.toNat).1) (min z3 ((sp_get S z1.toNat).1 : Int))))
noncomputable def am_region (S : xSt) (z1 : Int) (z2 : Int) (z3 : Int) (z4 : Int) (z5 : Int) : Int := sp_if (¬ ((0 ≤ z1 ∧ z1 < 8) ∧ (0 ≤ z3 ∧ z3 < 8))) (-1001) (sp_if (S.2.1 z1.toNat = none ∨ S.2.1 z3.toNat = none) (-1003) (xd (sp_rg (sp_get S z1.toNat).2 (sp_get S z1.toNat).1 z2 (sp_get S z3.toNat).2 (sp_get S z3.toNat).1 z4 z5)))
noncomputable def am_order (S : xSt) (z1 : Int) (z2 : Int) : Int := sp_if (¬ ((0 ≤ z1 ∧ z1 < 8) ∧ (0 ≤ z2 ∧ z2 < 8))) (-1001) (sp_if (S.2.1 z1.toNat = none ∨ S.2.1 z2.toNat = none) (-1003) (sp_ord (sp_get S z1.toNat).2 (sp_get S z2.toNat).2 (((sp_get S z1.toNat).1 : Int) - ((sp_get S z2.toNat).1 : Int)) 0 (min ((sp_get S z1.toNat).1 : Int) ((sp_get S z2.toNat).1 : Int))))
noncomputable def am_begins (S : xSt) (z1 : Int) (z2 : Int) (z3 : Int) : Int := sp_if (¬ ((0 ≤ z1 ∧ z1 < 8) ∧ (0 ≤ z2 ∧ z2 < 8))) (-1001) (sp_if (S.2.1 z1.toNat = none ∨ S.2.1 z2.toNat = none) (-1003) (xd (sp_st (sp_get S z1.toNat).2 (sp_get S z1.toNat).1 (sp_get S z2.toNat).2 (sp_get S z2.toNat).1 z3)))
noncomputable def am_swap (S : xSt) (z1 : Int) (z2 : Int) (z3 : Int) (z4 : Int) : Int × xSt := sp_if (¬ ((0 ≤ z1 ∧ z1 < 8) ∧ (0 ≤ z4 ∧ z4 < 8))) ((-1001, S)) (sp_if (¬ ((0 ≤ z2 ∧ z2 < 256) ∧ (0 ≤ z3 ∧ z3 < 256))) ((-1002, S)) (sp_if (S.2.1 z1.toNat = none) ((-1003, S)) ((((sp_get S z1.toNat).1 : Int), (S.1, sp_up S.2.1 z4.toNat (some ((sp_get S z1.toNat).1, fun q => if (sp_get S z1.toNat).2 q = z2 then z3 else (sp_get S z1.toNat).2 q)), S.2.2)))))
noncomputable def am_sub (S : xSt) (z1 : Int) (z2 : Int) (z3 : Int) (z4 : Int) : Int × xSt := sp_if (¬ ((0 ≤ z1 ∧ z1 < 8) ∧ (0 ≤ z4 ∧ z4 < 8))) ((-1001, S)) (sp_if (S.2.1 z1.toNat = none) ((-1003, S)) (sp_if (¬ (0 ≤ z2 ∧ z2 ≤ z3 ∧ z3 ≤ ((sp_get S z1.toNat).1 : Int))) ((-1005, S)) ((z3 - z2, (S.1, sp_up S.2.1 z4.toNat (some ((z3 - z2).toNat, fun q => (sp_get S z1.toNat).2 (z2.toNat + q))), S.2.2)))))
noncomputable def am_trim (S : xSt) (z1 : Int) (z2 : Int) : Int × xSt := sp_if (¬ ((0 ≤ z1 ∧ z1 < 8) ∧ (0 ≤ z2 ∧ z2 < 8))) ((-1001, S)) (sp_if (S.2.1 z1.toNat = none) ((-1003, S)) (sp_trm S (sp_get S z1.toNat) z2.toNat))
noncomputable def am_repeat (S : xSt) (z1 : Int) (z2 : Int) (z3 : Int) : Int × xSt := sp_if (¬ ((0 ≤ z1 ∧ z1 < 8) ∧ (0 ≤ z3 ∧ z3 < 8))) ((-1001, S)) (sp_if (S.2.1 z1.toNat = none) ((-1003, S)) (sp_if (z2 < 0) ((-1004, S)) (sp_if (200 < z2 * ((sp_get S z1.toNat).1 : Int)) ((-1007, S)) ((z2 * ((sp_get S z1.toNat).1 : Int), (S.1, sp_up S.2.1 z3.toNat (some ((z2 * ((sp_get S z1.toNat).1 : Int)).toNat, fun q => (sp_get S z1.toNat).2 (q % (sp_get S z1.toNat).1))), S.2.2))))))
noncomputable def am_join (S : xSt) (z1 : Int) (z2 : Int) (z3 : Int) : Int × xSt := sp_if (¬ ((0 ≤ z1 ∧ z1 < 8) ∧ (0 ≤ z2 ∧ z2 < 8) ∧ (0 ≤ z3 ∧ z3 < 8))) ((-1001, S)) (sp_if (S.2.1 z1.toNat = none ∨ S.2.1 z2.toNat = none) ((-1003, S)) (sp_if (200 < ((sp_get S z1.toNat).1 : Int) + ((sp_get S z2.toNat).1 : Int)) ((-1007, S)) ((((sp_get S z1.toNat).1 : Int) + ((sp_get S z2.toNat).1 : Int), (S.1, sp_up S.2.1 z3.toNat (some ((sp_get S z1.toNat).1 + (sp_get S z2.toNat).1, fun q => if q < (sp_get S z1.toNat).1 then (sp_get S z1.toNat).2 q else (sp_get S z2.toNat).2 (q - (sp_get S z1.toNat).1))), S.2.2)))))
noncomputable def am_split (S : xSt) (z1 : Int) (z2 : Int) (z3 : Int) : Int × xSt := sp_if (¬ (0 ≤ z1 ∧ z1 < 8)) ((-1001, S)) (sp_if (¬ sp_sepok z2) ((-1002, S)) (sp_if (S.2.1 z1.toNat = none) ((-1003, S)) ((((sp_split (sp_get S z1.toNat).2 (sp_get S z1.toNat).1 z2 z3).1 : Int), (S.1, S.2.1, sp_split (sp_get S z1.toNat).2 (sp_get S z1.toNat).1 z2 z3, S.2.2.2)))))
noncomputable def am_parts (S : xSt) : Int := (S.2.2.1.1 : Int)
noncomputable def am_partTo (S : xSt) (z1 : Int) (z2 : Int) : Int × xSt := sp_if (¬ (0 ≤ z2 ∧ z2 < 8)) ((-1001, S)) (sp_if (¬ (0 ≤ z1 ∧ z1 < (S.2.2.1.1 : Int))) ((-1, S)) (((S.2.2.1.2.2.1 z1.toNat : Int) - (S.2.2.1.2.1 z1.toNat : Int), (S.1, sp_up S.2.1 z2.toNat (some (S.2.2.1.2.2.1 z1.toNat - S.2.2.1.2.1 z1.toNat, fun q => S.2.2.1.2.2.2 (S.2.2.1.2.1 z1.toNat + q))), S.2.2))))
noncomputable def am_joined (S : xSt) (z1 : Int) (z2 : Int) : Int × xSt := sp_if (¬ (0 ≤ z2 ∧ z2 < 8)) ((-1001, S)) (sp_if (¬ (0 ≤ z1 ∧ z1 < 256)) ((-1002, S)) ((((sp_jn S.2.2.1 z1 S.2.2.1.1).1 : Int), (S.1, sp_up S.2.1 z2.toNat (some (sp_jn S.2.2.1 z1 S.2.2.1.1)), S.2.2))))
noncomputable def am_cutter (S : xSt) (z1 : Int) (z2 : Int) (z3 : Int) (z4 : Prop) : Int × xSt := sp_if (¬ ((0 ≤ z1 ∧ z1 < 2) ∧ (0 ≤ z2 ∧ z2 < 8) ∧ (0 ≤ z3 ∧ z3 < 8))) ((-1001, S)) (sp_if (S.2.1 z2.toNat = none ∨ S.2.1 z3.toNat = none) ((-1003, S)) ((sp_left z4 (sp_sep (sp_get S z3.toNat).2 (sp_get S z3.toNat).1) (sp_get S z2.toNat).2 ((sp_get S z2.toNat).1 : Int) 0, (S.1, S.2.1, S.2.2.1, sp_up S.2.2.2 z1.toNat (some ((sp_get S z2.toNat), sp_sep (sp_get S z3.toNat).2 (sp_get S z3.toNat).1, z4, 0))))))
noncomputable def am_more (S : xSt) (z1 : Int) : Int := sp_if (¬ (0 ≤ z1 ∧ z1 < 2)) (-1001) (sp_if (S.2.2.2 z1.toNat = none) (-1003) (sp_more (sp_getc S z1.toNat)))
noncomputable def am_left (S : xSt) (z1 : Int) : Int := sp_if (¬ (0 ≤ z1 ∧ z1 < 2)) (-1001) (sp_if (S.2.2.2 z1.toNat = none) (-1003) (sp_lft (sp_getc S z1.toNat)))
noncomputable def am_next (S : xSt) (z1 : Int) (z2 : Int) : Int × xSt := sp_if (¬ ((0 ≤ z1 ∧ z1 < 2) ∧ (0 ≤ z2 ∧ z2 < 8))) ((-1001, S)) (sp_if (S.2.2.2 z1.toNat = none) ((-1003, S)) (sp_nxt S z1.toNat z2.toNat (sp_getc S z1.toNat)))
noncomputable def am_nextBy (S : xSt) (z1 : Int) (z2 : Int) (z3 : Int) : Int × xSt := sp_if (¬ ((0 ≤ z1 ∧ z1 < 2) ∧ (0 ≤ z2 ∧ z2 < 8) ∧ (0 ≤ z3 ∧ z3 < 8))) ((-1001, S)) (sp_if (S.2.2.2 z1.toNat = none ∨ S.2.1 z2.toNat = none) ((-1003, S)) (sp_nxt S z1.toNat z3.toNat ((sp_getc S z1.toNat).1, sp_sep (sp_get S z2.toNat).2 (sp_get S z2.toNat).1, (sp_getc S z1.toNat).2.2)))
