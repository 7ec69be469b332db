/-! rows: an instruction each, over whole numbers and the numbered world -/
section XR1
variable {p : Program} {l : Launch} {e : Env} {R : Room} {s : State} {m : MethodId} {args : Array Value} {below : List Frame} {meth : Method} {c : Code} {H : Heap} {locs : List Loc} {cells slots : Nat} {Q : State → Prop}
variable {cc : ByteArray} {pc : Nat} {ls : Array Slot} {rest : List Value}
theorem x_iconst (hx : p.tables.exec = Jvm.exec) (hb : c.code = cc) {k : Int} (hdg : decode cc pc = .ok (.iconst k, 1)) (kk : W p l e R s m args below meth c H locs cells slots Q (F0 m (pc + 1) ls (.int (xI k) :: rest))) : W p l e R s m args below meth c H locs cells slots Q (F0 m pc ls rest) := lv_iconst hx hb hdg rfl kk
theorem x_bipush (hx : p.tables.exec = Jvm.exec) (hb : c.code = cc) {k : Int} (hdg : decode cc pc = .ok (.bipush k, 2)) (hk : (Int8.ofInt k).toInt32 = xI k) (kk : W p l e R s m args below meth c H locs cells slots Q (F0 m (pc + 2) ls (.int (xI k) :: rest))) : W p l e R s m args below meth c H locs cells slots Q (F0 m pc ls rest) := lv_bipush hx hb hdg hk kk
theorem x_sipush (hx : p.tables.exec = Jvm.exec) (hb : c.code = cc) {k : Int} (hdg : decode cc pc = .ok (.sipush k, 3)) (hk : (Int16.ofInt k).toInt32 = xI k) (kk : W p l e R s m args below meth c H locs cells slots Q (F0 m (pc + 3) ls (.int (xI k) :: rest))) : W p l e R s m args below meth c H locs cells slots Q (F0 m pc ls rest) := lv_sipush hx hb hdg hk kk
theorem x_iadd (hx : p.tables.exec = Jvm.exec) (hb : c.code = cc) {a b : Int} (hdg : decode cc pc = .ok (.iadd, 1)) (kk : W p l e R s m args below meth c H locs cells slots Q (F0 m (pc + 1) ls (.int (xI (a + b)) :: rest))) : W p l e R s m args below meth c H locs cells slots Q (F0 m pc ls (.int (xI b) :: .int (xI a) :: rest)) := lv_iadd hx hb hdg (by rw [xI_add]; exact kk)
theorem x_isub (hx : p.tables.exec = Jvm.exec) (hb : c.code = cc) {a b : Int} (hdg : decode cc pc = .ok (.isub, 1)) (kk : W p l e R s m args below meth c H locs cells slots Q (F0 m (pc + 1) ls (.int (xI (a - b)) :: rest))) : W p l e R s m args below meth c H locs cells slots Q (F0 m pc ls (.int (xI b) :: .int (xI a) :: rest)) := lv_isub hx hb hdg (by rw [xI_sub]; exact kk)
theorem x_imul (hx : p.tables.exec = Jvm.exec) (hb : c.code = cc) {a b : Int} (hdg : decode cc pc = .ok (.imul, 1)) (kk : W p l e R s m args below meth c H locs cells slots Q (F0 m (pc + 1) ls (.int (xI (a * b)) :: rest))) : W p l e R s m args below meth c H locs cells slots Q (F0 m pc ls (.int (xI b) :: .int (xI a) :: rest)) := lv_imul hx hb hdg (by rw [xI_mul]; exact kk)
theorem x_ineg (hx : p.tables.exec = Jvm.exec) (hb : c.code = cc) {a : Int} (hdg : decode cc pc = .ok (.ineg, 1)) (kk : W p l e R s m args below meth c H locs cells slots Q (F0 m (pc + 1) ls (.int (xI (-a)) :: rest))) : W p l e R s m args below meth c H locs cells slots Q (F0 m pc ls (.int (xI a) :: rest)) := lv_ineg hx hb hdg (by rw [xI_neg]; exact kk)
theorem x_iinc (hx : p.tables.exec = Jvm.exec) (hb : c.code = cc) {i nL : Nat} (k : Nat) {n a : Int} {lv lv' : List (Nat × Value)} (hdg : decode cc pc = .ok (.iinc i n, 3)) (h : lv_has ls nL lv) (hk : lv[k]? = some (i, .int (xI a))) (hn : i < nL) (hl : (i, Value.int (xI (a + n))) :: lv.filter (fun q => !(q.1 == i) && !(q.1 + 1 == i && q.2.category == 2)) = lv')
    (kk : ∀ ls' : Array Slot, lv_has ls' nL lv' → W p l e R s m args below meth c H locs cells slots Q (F0 m (pc + 3) ls' rest)) : W p l e R s m args below meth c H locs cells slots Q (F0 m pc ls rest) := lv_iinc (v := xI (a + n)) (lv' := lv') hx hb hdg h hk (by rw [← xI_add]; rfl) hn hl kk
/-- another name for the number on top -/
theorem x_to (b : Int) {a : Int} (h : a = b) (kk : W p l e R s m args below meth c H locs cells slots Q (F0 m pc ls (.int (xI b) :: rest))) : W p l e R s m args below meth c H locs cells slots Q (F0 m pc ls (.int (xI a) :: rest)) := by rw [h]; exact kk
theorem x_toL (b : Int) {a : Int} (h : a = b) (kk : W p l e R s m args below meth c H locs cells slots Q (F0 m pc ls (.long (xL b) :: rest))) : W p l e R s m args below meth c H locs cells slots Q (F0 m pc ls (.long (xL a) :: rest)) := by rw [h]; exact kk
theorem x_toi {x : Int32} (b : Int) (h : x = xI b) (kk : W p l e R s m args below meth c H locs cells slots Q (F0 m pc ls (.int (xI b) :: rest))) : W p l e R s m args below meth c H locs cells slots Q (F0 m pc ls (.int x :: rest)) := by rw [h]; exact kk
theorem x_tol {x : Int64} (y : Int64) (h : x = y) (kk : W p l e R s m args below meth c H locs cells slots Q (F0 m pc ls (.long y :: rest))) : W p l e R s m args below meth c H locs cells slots Q (F0 m pc ls (.long x :: rest)) := by rw [h]; exact kk
theorem x_tor {x y : Nat} (h : x = y) (kk : W p l e R s m args below meth c H locs cells slots Q (F0 m pc ls (.ref y :: rest))) : W p l e R s m args below meth c H locs cells slots Q (F0 m pc ls (.ref x :: rest)) := by rw [h]; exact kk
theorem x_top {p1 q1 : Prop} (h : p1 ↔ q1) (kk : W p l e R s m args below meth c H locs cells slots Q (F0 m pc ls (.int (xb q1) :: rest))) : W p l e R s m args below meth c H locs cells slots Q (F0 m pc ls (.int (xb p1) :: rest)) := by rw [xb_iff h]; exact kk
theorem x_icmp_eq (hx : p.tables.exec = Jvm.exec) (hb : c.code = cc) {a b : Int} {off : Int} {tgt : Nat} (hdg : decode cc pc = .ok (.if_icmp .eq off, 3)) (ht : (pc : Int) + off = (tgt : Int)) (hab : (-2147483648 ≤ a ∧ a ≤ 2147483647) ∧ (-2147483648 ≤ b ∧ b ≤ 2147483647))
    (kt : a = b → W p l e R s m args below meth c H locs cells slots Q (F0 m tgt ls rest)) (kf : ¬ a = b → W p l e R s m args below meth c H locs cells slots Q (F0 m (pc + 3) ls rest)) : W p l e R s m args below meth c H locs cells slots Q (F0 m pc ls (.int (xI b) :: .int (xI a) :: rest)) := by
  refine lv_icmp_eq (tgt := tgt) hx hb hdg ht (fun q => kt ?_) (fun q => kf ?_)
  · simp only [ge_iff_le, gt_iff_lt, ne_eq, Int32.lt_iff_toInt_lt, Int32.le_iff_toInt_le, ← Int32.toInt_inj, xI_toInt hab.1, xI_toInt hab.2] at q
    omega
  · simp only [ge_iff_le, gt_iff_lt, ne_eq, Int32.lt_iff_toInt_lt, Int32.le_iff_toInt_le, ← Int32.toInt_inj, xI_toInt hab.1, xI_toInt hab.2] at q
    omega
theorem x_if_eq (hx : p.tables.exec = Jvm.exec) (hb : c.code = cc) {a : Int} {off : Int} {tgt : Nat} (hdg : decode cc pc = .ok (.ifCond .eq off, 3)) (ht : (pc : Int) + off = (tgt : Int)) (ha : -2147483648 ≤ a ∧ a ≤ 2147483647)
    (kt : a = 0 → W p l e R s m args below meth c H locs cells slots Q (F0 m tgt ls rest)) (kf : ¬ a = 0 → W p l e R s m args below meth c H locs cells slots Q (F0 m (pc + 3) ls rest)) : W p l e R s m args below meth c H locs cells slots Q (F0 m pc ls (.int (xI a) :: rest)) := by
  refine lv_if_eq (tgt := tgt) hx hb hdg ht (fun q => kt ?_) (fun q => kf ?_)
  · simp only [ge_iff_le, gt_iff_lt, ne_eq, Int32.lt_iff_toInt_lt, Int32.le_iff_toInt_le, ← Int32.toInt_inj, xI_toInt ha, Int32.toInt_zero] at q
    omega
  · simp only [ge_iff_le, gt_iff_lt, ne_eq, Int32.lt_iff_toInt_lt, Int32.le_iff_toInt_le, ← Int32.toInt_inj, xI_toInt ha, Int32.toInt_zero] at q
    omega
theorem x_icmp_ne (hx : p.tables.exec = Jvm.exec) (hb : c.code = cc) {a b : Int} {off : Int} {tgt : Nat} (hdg : decode cc pc = .ok (.if_icmp .ne off, 3)) (ht : (pc : Int) + off = (tgt : Int)) (hab : (-2147483648 ≤ a ∧ a ≤ 2147483647) ∧ (-2147483648 ≤ b ∧ b ≤ 2147483647))
    (kt : ¬ a = b → W p l e R s m args below meth c H locs cells slots Q (F0 m tgt ls rest)) (kf : a = b → W p l e R s m args below meth c H locs cells slots Q (F0 m (pc + 3) ls rest)) : W p l e R s m args below meth c H locs cells slots Q (F0 m pc ls (.int (xI b) :: .int (xI a) :: rest)) := by
  refine lv_icmp_ne (tgt := tgt) hx hb hdg ht (fun q => kt ?_) (fun q => kf ?_)
  · simp only [ge_iff_le, gt_iff_lt, ne_eq, Int32.lt_iff_toInt_lt, Int32.le_iff_toInt_le, ← Int32.toInt_inj, xI_toInt hab.1, xI_toInt hab.2] at q
    omega
  · simp only [ge_iff_le, gt_iff_lt, ne_eq, Int32.lt_iff_toInt_lt, Int32.le_iff_toInt_le, ← Int32.toInt_inj, xI_toInt hab.1, xI_toInt hab.2] at q
    omega
theorem x_if_ne (hx : p.tables.exec = Jvm.exec) (hb : c.code = cc) {a : Int} {off : Int} {tgt : Nat} (hdg : decode cc pc = .ok (.ifCond .ne off, 3)) (ht : (pc : Int) + off = (tgt : Int)) (ha : -2147483648 ≤ a ∧ a ≤ 2147483647)
    (kt : ¬ a = 0 → W p l e R s m args below meth c H locs cells slots Q (F0 m tgt ls rest)) (kf : a = 0 → W p l e R s m args below meth c H locs cells slots Q (F0 m (pc + 3) ls rest)) : W p l e R s m args below meth c H locs cells slots Q (F0 m pc ls (.int (xI a) :: rest)) := by
  refine lv_if_ne (tgt := tgt) hx hb hdg ht (fun q => kt ?_) (fun q => kf ?_)
  · simp only [ge_iff_le, gt_iff_lt, ne_eq, Int32.lt_iff_toInt_lt, Int32.le_iff_toInt_le, ← Int32.toInt_inj, xI_toInt ha, Int32.toInt_zero] at q
    omega
  · simp only [ge_iff_le, gt_iff_lt, ne_eq, Int32.lt_iff_toInt_lt, Int32.le_iff_toInt_le, ← Int32.toInt_inj, xI_toInt ha, Int32.toInt_zero] at q
    omega
theorem x_icmp_lt (hx : p.tables.exec = Jvm.exec) (hb : c.code = cc) {a b : Int} {off : Int} {tgt : Nat} (hdg : decode cc pc = .ok (.if_icmp .lt off, 3)) (ht : (pc : Int) + off = (tgt : Int)) (hab : (-2147483648 ≤ a ∧ a ≤ 2147483647) ∧ (-2147483648 ≤ b ∧ b ≤ 2147483647))
    (kt : a < b → W p l e R s m args below meth c H locs cells slots Q (F0 m tgt ls rest)) (kf : b ≤ a → W p l e R s m args below meth c H locs cells slots Q (F0 m (pc + 3) ls rest)) : W p l e R s m args below meth c H locs cells slots Q (F0 m pc ls (.int (xI b) :: .int (xI a) :: rest)) := by
  refine lv_icmp_lt (tgt := tgt) hx hb hdg ht (fun q => kt ?_) (fun q => kf ?_)
  · simp only [ge_iff_le, gt_iff_lt, ne_eq, Int32.lt_iff_toInt_lt, Int32.le_iff_toInt_le, ← Int32.toInt_inj, xI_toInt hab.1, xI_toInt hab.2] at q
    omega
  · simp only [ge_iff_le, gt_iff_lt, ne_eq, Int32.lt_iff_toInt_lt, Int32.le_iff_toInt_le, ← Int32.toInt_inj, xI_toInt hab.1, xI_toInt hab.2] at q
    omega
theorem x_if_lt (hx : p.tables.exec = Jvm.exec) (hb : c.code = cc) {a : Int} {off : Int} {tgt : Nat} (hdg : decode cc pc = .ok (.ifCond .lt off, 3)) (ht : (pc : Int) + off = (tgt : Int)) (ha : -2147483648 ≤ a ∧ a ≤ 2147483647)
    (kt : a < 0 → W p l e R s m args below meth c H locs cells slots Q (F0 m tgt ls rest)) (kf : 0 ≤ a → W p l e R s m args below meth c H locs cells slots Q (F0 m (pc + 3) ls rest)) : W p l e R s m args below meth c H locs cells slots Q (F0 m pc ls (.int (xI a) :: rest)) := by
  refine lv_if_lt (tgt := tgt) hx hb hdg ht (fun q => kt ?_) (fun q => kf ?_)
  · simp only [ge_iff_le, gt_iff_lt, ne_eq, Int32.lt_iff_toInt_lt, Int32.le_iff_toInt_le, ← Int32.toInt_inj, xI_toInt ha, Int32.toInt_zero] at q
    omega
  · simp only [ge_iff_le, gt_iff_lt, ne_eq, Int32.lt_iff_toInt_lt, Int32.le_iff_toInt_le, ← Int32.toInt_inj, xI_toInt ha, Int32.toInt_zero] at q
    omega
theorem x_icmp_ge (hx : p.tables.exec = Jvm.exec) (hb : c.code = cc) {a b : Int} {off : Int} {tgt : Nat} (hdg : decode cc pc = .ok (.if_icmp .ge off, 3)) (ht : (pc : Int) + off = (tgt : Int)) (hab : (-2147483648 ≤ a ∧ a ≤ 2147483647) ∧ (-2147483648 ≤ b ∧ b ≤ 2147483647))
    (kt : b ≤ a → W p l e R s m args below meth c H locs cells slots Q (F0 m tgt ls rest)) (kf : a < b → W p l e R s m args below meth c H locs cells slots Q (F0 m (pc + 3) ls rest)) : W p l e R s m args below meth c H locs cells slots Q (F0 m pc ls (.int (xI b) :: .int (xI a) :: rest)) := by
  refine lv_icmp_ge (tgt := tgt) hx hb hdg ht (fun q => kt ?_) (fun q => kf ?_)
  · simp only [ge_iff_le, gt_iff_lt, ne_eq, Int32.lt_iff_toInt_lt, Int32.le_iff_toInt_le, ← Int32.toInt_inj, xI_toInt hab.1, xI_toInt hab.2] at q
    omega
  · simp only [ge_iff_le, gt_iff_lt, ne_eq, Int32.lt_iff_toInt_lt, Int32.le_iff_toInt_le, ← Int32.toInt_inj, xI_toInt hab.1, xI_toInt hab.2] at q
    omega
theorem x_if_ge (hx : p.tables.exec = Jvm.exec) (hb : c.code = cc) {a : Int} {off : Int} {tgt : Nat} (hdg : decode cc pc = .ok (.ifCond .ge off, 3)) (ht : (pc : Int) + off = (tgt : Int)) (ha : -2147483648 ≤ a ∧ a ≤ 2147483647)
    (kt : 0 ≤ a → W p l e R s m args below meth c H locs cells slots Q (F0 m tgt ls rest)) (kf : a < 0 → W p l e R s m args below meth c H locs cells slots Q (F0 m (pc + 3) ls rest)) : W p l e R s m args below meth c H locs cells slots Q (F0 m pc ls (.int (xI a) :: rest)) := by
  refine lv_if_ge (tgt := tgt) hx hb hdg ht (fun q => kt ?_) (fun q => kf ?_)
  · simp only [ge_iff_le, gt_iff_lt, ne_eq, Int32.lt_iff_toInt_lt, Int32.le_iff_toInt_le, ← Int32.toInt_inj, xI_toInt ha, Int32.toInt_zero] at q
    omega
  · simp only [ge_iff_le, gt_iff_lt, ne_eq, Int32.lt_iff_toInt_lt, Int32.le_iff_toInt_le, ← Int32.toInt_inj, xI_toInt ha, Int32.toInt_zero] at q
    omega
theorem x_icmp_gt (hx : p.tables.exec = Jvm.exec) (hb : c.code = cc) {a b : Int} {off : Int} {tgt : Nat} (hdg : decode cc pc = .ok (.if_icmp .gt off, 3)) (ht : (pc : Int) + off = (tgt : Int)) (hab : (-2147483648 ≤ a ∧ a ≤ 2147483647) ∧ (-2147483648 ≤ b ∧ b ≤ 2147483647))
    (kt : b < a → W p l e R s m args below meth c H locs cells slots Q (F0 m tgt ls rest)) (kf : a ≤ b → W p l e R s m args below meth c H locs cells slots Q (F0 m (pc + 3) ls rest)) : W p l e R s m args below meth c H locs cells slots Q (F0 m pc ls (.int (xI b) :: .int (xI a) :: rest)) := by
  refine lv_icmp_gt (tgt := tgt) hx hb hdg ht (fun q => kt ?_) (fun q => kf ?_)
  · simp only [ge_iff_le, gt_iff_lt, ne_eq, Int32.lt_iff_toInt_lt, Int32.le_iff_toInt_le, ← Int32.toInt_inj, xI_toInt hab.1, xI_toInt hab.2] at q
    omega
  · simp only [ge_iff_le, gt_iff_lt, ne_eq, Int32.lt_iff_toInt_lt, Int32.le_iff_toInt_le, ← Int32.toInt_inj, xI_toInt hab.1, xI_toInt hab.2] at q
    omega
theorem x_if_gt (hx : p.tables.exec = Jvm.exec) (hb : c.code = cc) {a : Int} {off : Int} {tgt : Nat} (hdg : decode cc pc = .ok (.ifCond .gt off, 3)) (ht : (pc : Int) + off = (tgt : Int)) (ha : -2147483648 ≤ a ∧ a ≤ 2147483647)
    (kt : 0 < a → W p l e R s m args below meth c H locs cells slots Q (F0 m tgt ls rest)) (kf : a ≤ 0 → W p l e R s m args below meth c H locs cells slots Q (F0 m (pc + 3) ls rest)) : W p l e R s m args below meth c H locs cells slots Q (F0 m pc ls (.int (xI a) :: rest)) := by
  refine lv_if_gt (tgt := tgt) hx hb hdg ht (fun q => kt ?_) (fun q => kf ?_)
  · simp only [ge_iff_le, gt_iff_lt, ne_eq, Int32.lt_iff_toInt_lt, Int32.le_iff_toInt_le, ← Int32.toInt_inj, xI_toInt ha, Int32.toInt_zero] at q
    omega
  · simp only [ge_iff_le, gt_iff_lt, ne_eq, Int32.lt_iff_toInt_lt, Int32.le_iff_toInt_le, ← Int32.toInt_inj, xI_toInt ha, Int32.toInt_zero] at q
    omega
theorem x_icmp_le (hx : p.tables.exec = Jvm.exec) (hb : c.code = cc) {a b : Int} {off : Int} {tgt : Nat} (hdg : decode cc pc = .ok (.if_icmp .le off, 3)) (ht : (pc : Int) + off = (tgt : Int)) (hab : (-2147483648 ≤ a ∧ a ≤ 2147483647) ∧ (-2147483648 ≤ b ∧ b ≤ 2147483647))
    (kt : a ≤ b → W p l e R s m args below meth c H locs cells slots Q (F0 m tgt ls rest)) (kf : b < a → W p l e R s m args below meth c H locs cells slots Q (F0 m (pc + 3) ls rest)) : W p l e R s m args below meth c H locs cells slots Q (F0 m pc ls (.int (xI b) :: .int (xI a) :: rest)) := by
  refine lv_icmp_le (tgt := tgt) hx hb hdg ht (fun q => kt ?_) (fun q => kf ?_)
  · simp only [ge_iff_le, gt_iff_lt, ne_eq, Int32.lt_iff_toInt_lt, Int32.le_iff_toInt_le, ← Int32.toInt_inj, xI_toInt hab.1, xI_toInt hab.2] at q
    omega
  · simp only [ge_iff_le, gt_iff_lt, ne_eq, Int32.lt_iff_toInt_lt, Int32.le_iff_toInt_le, ← Int32.toInt_inj, xI_toInt hab.1, xI_toInt hab.2] at q
    omega
theorem x_if_le (hx : p.tables.exec = Jvm.exec) (hb : c.code = cc) {a : Int} {off : Int} {tgt : Nat} (hdg : decode cc pc = .ok (.ifCond .le off, 3)) (ht : (pc : Int) + off = (tgt : Int)) (ha : -2147483648 ≤ a ∧ a ≤ 2147483647)
    (kt : a ≤ 0 → W p l e R s m args below meth c H locs cells slots Q (F0 m tgt ls rest)) (kf : 0 < a → W p l e R s m args below meth c H locs cells slots Q (F0 m (pc + 3) ls rest)) : W p l e R s m args below meth c H locs cells slots Q (F0 m pc ls (.int (xI a) :: rest)) := by
  refine lv_if_le (tgt := tgt) hx hb hdg ht (fun q => kt ?_) (fun q => kf ?_)
  · simp only [ge_iff_le, gt_iff_lt, ne_eq, Int32.lt_iff_toInt_lt, Int32.le_iff_toInt_le, ← Int32.toInt_inj, xI_toInt ha, Int32.toInt_zero] at q
    omega
  · simp only [ge_iff_le, gt_iff_lt, ne_eq, Int32.lt_iff_toInt_lt, Int32.le_iff_toInt_le, ← Int32.toInt_inj, xI_toInt ha, Int32.toInt_zero] at q
    omega
theorem x_ifb_eq (hx : p.tables.exec = Jvm.exec) (hb : c.code = cc) {p1 : Prop} {off : Int} {tgt : Nat} (hdg : decode cc pc = .ok (.ifCond .eq off, 3)) (ht : (pc : Int) + off = (tgt : Int))
    (kt : ¬ p1 → W p l e R s m args below meth c H locs cells slots Q (F0 m tgt ls rest)) (kf : p1 → W p l e R s m args below meth c H locs cells slots Q (F0 m (pc + 3) ls rest)) : W p l e R s m args below meth c H locs cells slots Q (F0 m pc ls (.int (xb p1) :: rest)) :=
  lv_if_eq (tgt := tgt) hx hb hdg ht (fun q => kt (xb_eq0.mp q)) (fun q => kf (Classical.not_not.mp (fun z => q (xb_eq0.mpr z))))
theorem x_ifb_ne (hx : p.tables.exec = Jvm.exec) (hb : c.code = cc) {p1 : Prop} {off : Int} {tgt : Nat} (hdg : decode cc pc = .ok (.ifCond .ne off, 3)) (ht : (pc : Int) + off = (tgt : Int))
    (kt : p1 → W p l e R s m args below meth c H locs cells slots Q (F0 m tgt ls rest)) (kf : ¬ p1 → W p l e R s m args below meth c H locs cells slots Q (F0 m (pc + 3) ls rest)) : W p l e R s m args below meth c H locs cells slots Q (F0 m pc ls (.int (xb p1) :: rest)) :=
  lv_if_ne (tgt := tgt) hx hb hdg ht (fun q => kt (Classical.not_not.mp (fun z => q (xb_eq0.mpr z)))) (fun q => kf (xb_eq0.mp q))
end XR1
