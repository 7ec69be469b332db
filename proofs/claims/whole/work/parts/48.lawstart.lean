/-! THE CLAIM OUT OF ONE WALK OF THE LAW'S BODY. Your part is whole_start (and what it stands on); all else here is the same for every law, but numbers. -/
def R_law : String := "RowsOfSignsLaw"
def lw_P (b : Addr) (xs : List Int32) (args : Array Value) (s : State) : Prop := args = #[.ref b] ∧ s.IntsAt b xs ∧ xs.length ≤ 3072 ∧ (Jvm.Cond.and given_1 narrow_1).before args s = true
def lw_Q (_ : Array Value) (s : State) (o : Outcome) (t : State) : Prop := o = .returned (some (.int 1)) ∧ Framed s o t [] 600000 7302250
def lw_Z (below : List Frame) (a : Array Value) (s : State) : State → Prop := fun t => ∃ o, t.status = .running ∧ Ended t below o ∧ lw_Q a s o t
/-- the law's own end, with 1 on the stack, nothing written that was there before, its room as the claim has it -/
theorem lw_ret {p : Program} {l : Launch} {e : Env} {s : State} {m : MethodId} {below : List Frame} {meth : Method} {c : Code} {b : Nat} (hx : p.tables.exec = Jvm.exec) (hb : c.code = code) (hr : meth.sig.returnType = ret) (hlocks : meth.locks = false) {pc : Nat} {H : Heap} {ls : Array Slot} (hdg : decode code pc = .ok (.ireturn, 1)) : W p l e room_1 s m #[Value.ref b] below meth c H [] 600000 7302250 (lw_Z below #[Value.ref b] s) (F0 m pc ls [.int 1]) := by
  intro T hT X
  obtain ⟨fs, hret, hrun, hended, hW, hframe⟩ := X.leave (v := some (.int 1)) (hlocks := hlocks) (fun h => by rw [hr] at h; cases h)
  have hmeth' : T.vm.method? m = some meth := X.method'
  refine ⟨T.setFrames fs, ?_, .returned (some (.int 1)), hrun, hended, rfl, ⟨_, rfl⟩, hW, hframe⟩
  jvm_step X.here [X.here.top, hx, hb, hdg, hmeth', hr, ret, narrow_b1]
  (try refine ⟨rfl, ?_⟩); (try refine ⟨rfl, ?_⟩)
  first | (intro acts; rw [hret _ acts rfl rfl rfl]) | rw [hret _ _ rfl rfl rfl]
  exact Steps.refl _
/-- what holds at the law's entry: the machine, the code, the tables' words (any of lw_tbl by 'hts w (by decide +kernel)'), the script of L ints xs at the cell b, what the Statement gives of the start (any of its parts by flat_of_before) -/
def lw_At (p : Program) (s : State) (m : MethodId) (meth : Method) (c : Code) (b L : Nat) (xs : Nat → Int32) : Prop :=
  p.tables.exec = Jvm.exec ∧ c.code = code ∧ meth.sig.returnType = ret ∧ c.maxLocals = 4 ∧ s.vm.findClass R_law = some m.cls ∧ (∀ w ∈ lw_tbl, w.before #[Value.ref b] s = true) ∧ va_X b L xs s s.heap ∧ b < s.heap.size ∧ meth.locks = false ∧ (Jvm.Cond.and given_1 narrow_1).before #[Value.ref b] s = true
/-! the law: its start -/
theorem x4A.to {A B : Nat → Prop} {s U : State} {H : Heap} {locs : List Loc} (h : x4A A s s.heap) (hS : va_S A s.heap H locs) (hB : ∀ q, B q → A q) (hU : U.heap = H) (hW : s.WarmedH U.vm) : x4A B U U.heap := by
  obtain ⟨t, h1, h2⟩ := h
  subst hU
  exact ⟨t, ((h1.kept (fun a g1 g2 => hS.2.1 a g1 g2)).narrow hB).moved hW.alike, ((h2.kept (fun a g1 g2 => hS.2.1 a g1 g2)).narrow hB).moved hW.alike⟩
theorem x4_blind {D : va_G} {cA : Nat → ClassId} {n : Nat} {ad : Nat → Nat} {en : Nat → va_E} {sz : Nat} {av : List Value} {A : Nat → Prop} : FrameBlind (va_Pc av (fun U => xMg D cA n ad en sz U ∧ x4A A U U.heap)) := fun a U g mk q => ⟨q.1, (xMg_blind (av := av) a U g mk ⟨q.1, q.2.1⟩).2, by
  obtain ⟨t, h1, h2⟩ := q.2.2
  exact ⟨t, va_Z.moved (u := U) (U := U.calling g mk a) (Vm.Alike.refl U.vm) h1, va_T.moved (u := U) (U := U.calling g mk a) (Vm.Alike.refl U.vm) h2⟩⟩
section XGL
variable {p : Program} {l : Launch} {e : Env} {R : Room} {s : State} {m : MethodId} {args : Array Value} {below : List Frame} {meth : Method} {c : Code} {H : Heap} {locs : List Loc} {cells slots : Nat} {Q : State → Prop}
variable {cc bytes : ByteArray} {pc : Nat} {ls : Array Slot} {rest : List Value} {D : va_G} {n : Nat} {ad : Nat → Nat} {A : Nat → Prop} {H0 : Heap} {own : String} {y : MethodName} {maxL nL index fr lo : Nat}
theorem xc_initL (F : CallFix p m c cc nL s args xU own) (hsz : ls.size = nL) {i n' mc ms : Nat} {post : ((Nat → Nat) × (Nat → va_E)) → Prop} {B : State → Prop} (hM : Met l y (Cond.code y bytes maxL none :: xU) (xrg fr mc ms lo) (va_Pc [.ref (ad i)] B) (va_Qv post (xEg D n' n ad H.size) (xA n ad H.size)) mc ms (xA n ad H.size)) (hbl : FrameBlind (va_Pc [.ref (ad i)] B)) (hB : ∀ U : State, U.heap = H → s.WarmedH U.vm → B U) (hco : Cond.code y bytes maxL none ∈ xU) (hini : Cond.initialized y.cls ∈ xU) (him : Cond.instanceMethod y ∈ xU) (hl : Cond.methodLink own index y ∈ xU) (hy : y.name = "<init>") (hd : y.cls ≠ "java/lang/invoke/MethodHandle" ∧ y.cls ≠ "java/lang/invoke/VarHandle" ∧ (parseMethodDescriptor y.desc).map (fun d => d.parameters.length) = some 0) (hroom : (rest.map fun v => v.category).sum ≤ 8) (hR : fr + 1 ≤ R.frames ∧ 8 + (maxL + 11) + lo ≤ R.locals) (hf : cells + mc ≤ R.cells ∧ slots + ms ≤ R.slots) (hdg : decode cc pc = .ok (.invokespecial index, 3)) (hD : xD A n ad) (hS : va_S A H0 H locs) (hA : ∀ q, H0.size ≤ q → A q)
    (kk : ∀ (ad' : Nat → Nat) (en' : Nat → va_E) (H1 : Heap) (locs1 : List Loc), post (ad', en') → va_P D vwCl (xw n' ad' en') H1 → xD A n' ad' → va_S A H0 H1 locs1 → W p l e R s m args below meth c H1 locs1 (cells + mc) (slots + ms) Q (F0 m (pc + 3) ls rest)) : W p l e R s m args below meth c H locs cells slots Q (F0 m pc ls (.ref (ad i) :: rest)) := by
  have hF : ∀ q, xA n ad H.size q → A q := fun q h => by
    rcases h with ⟨j, hj, rfl⟩ | h
    · exact hD.2 j hj
    · exact hA q (Nat.le_trans hS.1 h)
  refine va_callv (va_runI (As := []) (rest := rest) F hM (cwI 0 F.2.2.2.2 (xU_goodIn (own := own) (C := own) (index := 0) (y := y) (fun w h => by rcases List.mem_cons.mp h with rfl | h; exact hco; exact h)) rfl rfl rfl (F.2.2.2.2 _ hini) (F.2.2.2.2 _ hl) (F.2.2.2.2 _ him) hy hd hR) ⟨hbl, fun U hU hW => ⟨rfl, hB U hU hW⟩⟩ rfl rfl hsz rfl (lv_room hroom) hdg hf) hS (fun q _ h => hF q h) hF (fun u t H1 locs1 ht _ hp hB _ _ hS1 => kk u.1 u.2 H1 locs1 hp (by rw [← ht]; exact hB.1) (xD_w hB.2 hF) hS1)
end XGL
def x_five {α : Type} (a0 a1 a2 a3 a4 : α) (k : Nat) : α := match k with
  | 0 => a0
  | 1 => a1
  | 2 => a2
  | 3 => a3
  | _ => a4
theorem x_known {s : State} {args : Array Value} (hts : ∀ w ∈ lw_tbl, w.before args s = true) : ∃ (D : va_G) (cA : Nat → ClassId), va_K D vwCl (xty cA) s := by
  have htU : ∀ w ∈ xU, w.before args s = true := fun w h => hts w (xU_in w h)
  obtain ⟨c0, i0, h0⟩ := u_known (C := RX0) (T := TX0) (N := 5) (n := 5) htU uX0 (htU _ u_ib_RX0)
  obtain ⟨c1, i1, h1⟩ := u_known (C := RX1) (T := TX1) (N := 4) (n := 4) htU uX1 (htU _ u_ib_RX1)
  obtain ⟨c2, i2, h2⟩ := u_known (C := RX2) (T := TX2) (N := 2) (n := 2) htU uX2 (htU _ u_ib_RX2)
  obtain ⟨c3, i3, h3⟩ := u_known (C := RX3) (T := TX3) (N := 2) (n := 2) htU uX3 (htU _ u_ib_RX3)
  obtain ⟨c4, i4, h4⟩ := u_known (C := RX4) (T := TX4) (N := 6) (n := 6) htU uX4 (htU _ u_ib_RX4)
  obtain ⟨c5, i5, h5⟩ := u_known (C := RX5) (T := TX5) (N := 17) (n := 17) htU uX5 (htU _ u_ib_RX5)
  have hcl : ∀ k : Nat, ∃ z : ClassId × (Nat → Nat), ∀ q : vw_C, vwCl[k]? = some q → u_Kn s q.1 q.2.1 q.2.2 z.1 z.2 := fun k => match k with
    | 0 => ⟨(c0, i0), fun q h => by obtain rfl : q = (RX0, TX0, 5) := Option.some.inj (h.symm.trans (show vwCl[0]? = some (RX0, TX0, 5) from rfl)); exact h0⟩
    | 1 => ⟨(c1, i1), fun q h => by obtain rfl : q = (RX1, TX1, 4) := Option.some.inj (h.symm.trans (show vwCl[1]? = some (RX1, TX1, 4) from rfl)); exact h1⟩
    | 2 => ⟨(c2, i2), fun q h => by obtain rfl : q = (RX2, TX2, 2) := Option.some.inj (h.symm.trans (show vwCl[2]? = some (RX2, TX2, 2) from rfl)); exact h2⟩
    | 3 => ⟨(c3, i3), fun q h => by obtain rfl : q = (RX3, TX3, 2) := Option.some.inj (h.symm.trans (show vwCl[3]? = some (RX3, TX3, 2) from rfl)); exact h3⟩
    | 4 => ⟨(c4, i4), fun q h => by obtain rfl : q = (RX4, TX4, 6) := Option.some.inj (h.symm.trans (show vwCl[4]? = some (RX4, TX4, 6) from rfl)); exact h4⟩
    | 5 => ⟨(c5, i5), fun q h => by obtain rfl : q = (RX5, TX5, 17) := Option.some.inj (h.symm.trans (show vwCl[5]? = some (RX5, TX5, 17) from rfl)); exact h5⟩
    | k + 6 => ⟨(c0, i0), fun q h => absurd (List.getElem?_eq_some_iff.mp h).1 (by show ¬ (k + 6 < 6); omega)⟩
  obtain ⟨a0, ka0, co0, f0, g0, e0⟩ := Cond.arrayClass_spec (htU _ u_ac_int)
  obtain ⟨a1, ka1, co1, f1, g1, e1⟩ := Cond.arrayClass_spec (htU _ u_ac_boolean)
  obtain ⟨co2, a2, ka2, f2, _, g2, e2, n2⟩ := Cond.arrayOver_spec (hts (.arrayOver (.object "RowsOfSigns$Row")) (List.mem_of_getElem? (i := 56) (by decide +kernel)))
  obtain ⟨co3, a3, ka3, f3, _, g3, e3, n3⟩ := Cond.arrayOver_spec (hts (.arrayOver (.object "RowsOfSigns$Text")) (List.mem_of_getElem? (i := 58) (by decide +kernel)))
  obtain ⟨co4, a4, ka4, f4, _, g4, e4, n4⟩ := Cond.arrayOver_spec (hts (.arrayOver (.object "RowsOfSigns$Cutter")) (List.mem_of_getElem? (i := 60) (by decide +kernel)))
  refine ⟨(fun k => (hcl k).choose.1, fun k => (hcl k).choose.2), x_five a0 a1 a2 a3 a4, fun k q hq => (hcl k).choose_spec q hq, fun k q hq => ?_⟩
  match k, hq with
  | 0, hq =>
    obtain rfl : q = (a0, FieldType.int) := Option.some.inj (hq.symm.trans (show (xty (x_five a0 a1 a2 a3 a4))[0]? = some (a0, FieldType.int) from rfl))
    exact ⟨fun n z => ⟨fun k h => (by cases h), ka0, g0, co0, e0⟩, f0⟩
  | 1, hq =>
    obtain rfl : q = (a1, FieldType.boolean) := Option.some.inj (hq.symm.trans (show (xty (x_five a0 a1 a2 a3 a4))[1]? = some (a1, FieldType.boolean) from rfl))
    exact ⟨fun n z => ⟨fun k h => (by cases h), ka1, g1, co1, e1⟩, f1⟩
  | 2, hq =>
    obtain rfl : q = (a2, FieldType.object "RowsOfSigns$Row") := Option.some.inj (hq.symm.trans (show (xty (x_five a0 a1 a2 a3 a4))[2]? = some (a2, FieldType.object "RowsOfSigns$Row") from rfl))
    exact ⟨fun n z => ⟨fun k h => (by cases h), ka2, g2, co2, e2⟩, ka2, co2, g2, e2, f2, n2⟩
  | 3, hq =>
    obtain rfl : q = (a3, FieldType.object "RowsOfSigns$Text") := Option.some.inj (hq.symm.trans (show (xty (x_five a0 a1 a2 a3 a4))[3]? = some (a3, FieldType.object "RowsOfSigns$Text") from rfl))
    exact ⟨fun n z => ⟨fun k h => (by cases h), ka3, g3, co3, e3⟩, ka3, co3, g3, e3, f3, n3⟩
  | 4, hq =>
    obtain rfl : q = (a4, FieldType.object "RowsOfSigns$Cutter") := Option.some.inj (hq.symm.trans (show (xty (x_five a0 a1 a2 a3 a4))[4]? = some (a4, FieldType.object "RowsOfSigns$Cutter") from rfl))
    exact ⟨fun n z => ⟨fun k h => (by cases h), ka4, g4, co4, e4⟩, ka4, co4, g4, e4, f4, n4⟩
  | k + 5, hq => exact absurd (List.getElem?_eq_some_iff.mp hq).1 (by show ¬ (k + 5 < 5); omega)
theorem xNest_in : ∀ w ∈ xNest, w.onTables = true ∧ w ∈ lw_tbl := List.forall_mem_cons.mpr ⟨⟨rfl, (List.mem_of_getElem? (i := 75) (by decide +kernel))⟩, List.forall_mem_cons.mpr ⟨⟨rfl, (List.mem_of_getElem? (i := 76) (by decide +kernel))⟩, List.forall_mem_cons.mpr ⟨⟨rfl, (List.mem_of_getElem? (i := 77) (by decide +kernel))⟩, List.forall_mem_cons.mpr ⟨⟨rfl, (List.mem_of_getElem? (i := 85) (by decide +kernel))⟩, List.forall_mem_cons.mpr ⟨⟨rfl, (List.mem_of_getElem? (i := 89) (by decide +kernel))⟩, List.forall_mem_cons.mpr ⟨⟨rfl, (List.mem_of_getElem? (i := 108) (by decide +kernel))⟩, List.forall_mem_cons.mpr ⟨⟨rfl, (List.mem_of_getElem? (i := 110) (by decide +kernel))⟩, List.forall_mem_cons.mpr ⟨⟨rfl, (List.mem_of_getElem? (i := 127) (by decide +kernel))⟩, fun _ h => absurd h List.not_mem_nil⟩⟩⟩⟩⟩⟩⟩⟩
theorem xNestM_in : ∀ w ∈ xNestM, w.onTables = true ∧ w ∈ lw_tbl := List.forall_mem_cons.mpr ⟨⟨rfl, (List.mem_of_getElem? (i := 63) (by decide +kernel))⟩, List.forall_mem_cons.mpr ⟨⟨rfl, (List.mem_of_getElem? (i := 69) (by decide +kernel))⟩, List.forall_mem_cons.mpr ⟨⟨rfl, (List.mem_of_getElem? (i := 99) (by decide +kernel))⟩, List.forall_mem_cons.mpr ⟨⟨rfl, (List.mem_of_getElem? (i := 101) (by decide +kernel))⟩, List.forall_mem_cons.mpr ⟨⟨rfl, (List.mem_of_getElem? (i := 106) (by decide +kernel))⟩, List.forall_mem_cons.mpr ⟨⟨rfl, (List.mem_of_getElem? (i := 117) (by decide +kernel))⟩, List.forall_mem_cons.mpr ⟨⟨rfl, (List.mem_of_getElem? (i := 122) (by decide +kernel))⟩, fun _ h => absurd h List.not_mem_nil⟩⟩⟩⟩⟩⟩⟩
theorem x_xN {s : State} {args : Array Value} (hts : ∀ w ∈ lw_tbl, w.before args s = true) : xN s := fun w hw => va_Nw.of (xNest_in w hw).1 (hts w (xNest_in w hw).2)
theorem x_xQ {s : State} {args : Array Value} (hts : ∀ w ∈ lw_tbl, w.before args s = true) : xQ s := ⟨fun w hw => va_Nw.of (xNestM_in w hw).1 (hts w (xNestM_in w hw).2), va_AO.of (hts (.arrayOver (.object "RowsOfSigns$Row")) (List.mem_of_getElem? (i := 56) (by decide +kernel))), va_AO.of (hts (.arrayOver (.object "RowsOfSigns$Text")) (List.mem_of_getElem? (i := 58) (by decide +kernel))), va_AO.of (hts (.arrayOver (.object "RowsOfSigns$Cutter")) (List.mem_of_getElem? (i := 60) (by decide +kernel)))⟩
theorem x_xZ {s : State} {args : Array Value} (hts : ∀ w ∈ lw_tbl, w.before args s = true) (hgv : (Jvm.Cond.and given_1 narrow_1).before args s = true) : xZA (fun q => s.heap.size ≤ q) s s.heap := by
  have hs := flat_of_before _ hgv
  have hA : ∀ a : Nat, a < s.heap.size → ¬ (fun q : Nat => s.heap.size ≤ q) a := fun a h => Nat.not_le.mpr h
  have hel : ∀ j : Nat, j < 12 → (Term.elem (.static "RowsOfSigns" "NO_SEPARATORS" "[I") (.int (Int32.ofNat j))).eval args s none [] s = some (.int (xI (sp_nosl j))) := fun j hj => match j, hj with
    | 0, _ => (va_eqt (t := .elem (.static "RowsOfSigns" "NO_SEPARATORS" "[I") (.int 0)) (z := 36) (hs _ (by decide +kernel))).trans (congrArg (fun z => some (Value.int z)) (show (36 : Int32) = xI (sp_nosl 0) by decide +kernel))
    | 1, _ => (va_eqt (t := .elem (.static "RowsOfSigns" "NO_SEPARATORS" "[I") (.int 1)) (z := 40) (hs _ (by decide +kernel))).trans (congrArg (fun z => some (Value.int z)) (show (40 : Int32) = xI (sp_nosl 1) by decide +kernel))
    | 2, _ => (va_eqt (t := .elem (.static "RowsOfSigns" "NO_SEPARATORS" "[I") (.int 2)) (z := 41) (hs _ (by decide +kernel))).trans (congrArg (fun z => some (Value.int z)) (show (41 : Int32) = xI (sp_nosl 2) by decide +kernel))
    | 3, _ => (va_eqt (t := .elem (.static "RowsOfSigns" "NO_SEPARATORS" "[I") (.int 3)) (z := 42) (hs _ (by decide +kernel))).trans (congrArg (fun z => some (Value.int z)) (show (42 : Int32) = xI (sp_nosl 3) by decide +kernel))
    | 4, _ => (va_eqt (t := .elem (.static "RowsOfSigns" "NO_SEPARATORS" "[I") (.int 4)) (z := 43) (hs _ (by decide +kernel))).trans (congrArg (fun z => some (Value.int z)) (show (43 : Int32) = xI (sp_nosl 4) by decide +kernel))
    | 5, _ => (va_eqt (t := .elem (.static "RowsOfSigns" "NO_SEPARATORS" "[I") (.int 5)) (z := 46) (hs _ (by decide +kernel))).trans (congrArg (fun z => some (Value.int z)) (show (46 : Int32) = xI (sp_nosl 5) by decide +kernel))
    | 6, _ => (va_eqt (t := .elem (.static "RowsOfSigns" "NO_SEPARATORS" "[I") (.int 6)) (z := 63) (hs _ (by decide +kernel))).trans (congrArg (fun z => some (Value.int z)) (show (63 : Int32) = xI (sp_nosl 6) by decide +kernel))
    | 7, _ => (va_eqt (t := .elem (.static "RowsOfSigns" "NO_SEPARATORS" "[I") (.int 7)) (z := 91) (hs _ (by decide +kernel))).trans (congrArg (fun z => some (Value.int z)) (show (91 : Int32) = xI (sp_nosl 7) by decide +kernel))
    | 8, _ => (va_eqt (t := .elem (.static "RowsOfSigns" "NO_SEPARATORS" "[I") (.int 8)) (z := 92) (hs _ (by decide +kernel))).trans (congrArg (fun z => some (Value.int z)) (show (92 : Int32) = xI (sp_nosl 8) by decide +kernel))
    | 9, _ => (va_eqt (t := .elem (.static "RowsOfSigns" "NO_SEPARATORS" "[I") (.int 9)) (z := 94) (hs _ (by decide +kernel))).trans (congrArg (fun z => some (Value.int z)) (show (94 : Int32) = xI (sp_nosl 9) by decide +kernel))
    | 10, _ => (va_eqt (t := .elem (.static "RowsOfSigns" "NO_SEPARATORS" "[I") (.int 10)) (z := 123) (hs _ (by decide +kernel))).trans (congrArg (fun z => some (Value.int z)) (show (123 : Int32) = xI (sp_nosl 10) by decide +kernel))
    | 11, _ => (va_eqt (t := .elem (.static "RowsOfSigns" "NO_SEPARATORS" "[I") (.int 11)) (z := 124) (hs _ (by decide +kernel))).trans (congrArg (fun z => some (Value.int z)) (show (124 : Int32) = xI (sp_nosl 11) by decide +kernel))
    | j + 12, h => absurd h (by omega)
  obtain ⟨t, h1, h2⟩ := va_Tof (args := args) (s := s) (tm := (.static "RowsOfSigns" "NO_SEPARATORS" "[I")) (ty := .int) (N := 12) (f := fun j => .int (xI (sp_nosl j))) (A := fun q => s.heap.size ≤ q) (by decide) (hs _ (by decide +kernel)) (va_eqt (z := 12) (hs _ (by decide +kernel))) hel hA
  exact ⟨t, va_Zof (hts _ (List.mem_of_getElem? (i := 458) (by decide +kernel))) (hts _ (xU_in _ u_in_RX4)) h1 hA, h2⟩
theorem x_x4 {s : State} {args : Array Value} (hts : ∀ w ∈ lw_tbl, w.before args s = true) (hgv : (Jvm.Cond.and given_1 narrow_1).before args s = true) : x4A (fun q => s.heap.size ≤ q) s s.heap := by
  have hs := flat_of_before _ hgv
  have hA : ∀ a : Nat, a < s.heap.size → ¬ (fun q : Nat => s.heap.size ≤ q) a := fun a h => Nat.not_le.mpr h
  have hel : ∀ j : Nat, j < 4 → (Term.elem (.static "RowsOfSigns" "THE_FOUR" "[I") (.int (Int32.ofNat j))).eval args s none [] s = some (.int (xI (sp_four j))) := fun j hj => match j, hj with
    | 0, _ => (va_eqt (t := .elem (.static "RowsOfSigns" "THE_FOUR" "[I") (.int 0)) (z := 110) (hs _ (by decide +kernel))).trans (congrArg (fun z => some (Value.int z)) (show (110 : Int32) = xI (sp_four 0) by decide +kernel))
    | 1, _ => (va_eqt (t := .elem (.static "RowsOfSigns" "THE_FOUR" "[I") (.int 1)) (z := 117) (hs _ (by decide +kernel))).trans (congrArg (fun z => some (Value.int z)) (show (117 : Int32) = xI (sp_four 1) by decide +kernel))
    | 2, _ => (va_eqt (t := .elem (.static "RowsOfSigns" "THE_FOUR" "[I") (.int 2)) (z := 108) (hs _ (by decide +kernel))).trans (congrArg (fun z => some (Value.int z)) (show (108 : Int32) = xI (sp_four 2) by decide +kernel))
    | 3, _ => (va_eqt (t := .elem (.static "RowsOfSigns" "THE_FOUR" "[I") (.int 3)) (z := 108) (hs _ (by decide +kernel))).trans (congrArg (fun z => some (Value.int z)) (show (108 : Int32) = xI (sp_four 3) by decide +kernel))
    | j + 4, h => absurd h (by omega)
  obtain ⟨t, h1, h2⟩ := va_Tof (args := args) (s := s) (tm := (.static "RowsOfSigns" "THE_FOUR" "[I")) (ty := .int) (N := 4) (f := fun j => .int (xI (sp_four j))) (A := fun q => s.heap.size ≤ q) (by decide) (hs _ (by decide +kernel)) (va_eqt (z := 4) (hs _ (by decide +kernel))) hel hA
  exact ⟨t, va_Zof (hts _ (List.mem_of_getElem? (i := 142) (by decide +kernel))) (hts _ (xU_in _ u_in_RX4)) h1 hA, h2⟩
set_option maxRecDepth 20000 in
set_option maxHeartbeats 4000000 in
theorem whole_start {p : Program} {e : Env} {s : State} {m : MethodId} {below : List Frame} {meth : Method} {c : Code} (l : Launch) (hflags : l.flags = flags0) {b L : Nat} {xs : Nat → Int32} (hL : L ≤ 3072) (C0 : lw_At p s m meth c b L xs) : W p l e room_1 s m #[Value.ref b] below meth c s.heap [] 0 0 (lw_Z below #[Value.ref b] s) (entryFrame m ([Value.ref b] : List Value).toArray 4) := by
  obtain ⟨hx, hb, hr, hml, hown, htsL, hX, hbl, hlocks, hgv⟩ := id C0
  have hb : c.code = cL_law := hb
  have hown : s.vm.findClass RL = some m.cls := hown
  have hts : ∀ w ∈ xU, w.before #[Value.ref b] s = true := fun w h => htsL w (xU_in w h)
  obtain ⟨D, cA, hK⟩ := x_known htsL
  have hN : xN s := x_xN htsL
  have hQ : xQ s := x_xQ htsL
  have hZ : xZA (fun q => s.heap.size ≤ q) s s.heap := x_xZ htsL hgv
  have h4 : x4A (fun q => s.heap.size ≤ q) s s.heap := x_x4 htsL hgv
  have hA : ∀ q : Nat, s.heap.size ≤ q → (fun q : Nat => s.heap.size ≤ q) q := fun _ h => h
  have hE : LE p s m c b L xs D cA := ⟨hx, hb, hml, hown, hts, hX, hbl, hK, hN, hZ⟩
  have hS : va_S (fun q : Nat => s.heap.size ≤ q) s.heap s.heap [] := va_S.rf
  have hP : va_P D vwCl (xw 0 (fun _ => 0) (fun _ => .inr (0, []))) s.heap := fun k q h => absurd (xw_of h).1 (Nat.not_lt_zero _)
  have hD : xD (fun q : Nat => s.heap.size ≤ q) 0 (fun _ => 0) := ⟨fun i j h => absurd h (Nat.not_lt_zero _), fun i h => absurd h (Nat.not_lt_zero _)⟩
  have hl := lv_entry ([.ref b]) (n := 4) (Nat.le_of_ble_eq_true rfl)
  rw [lg_entry_eq]
  generalize (lg_sl ([.ref b]) ++ List.replicate (4 - (lg_sl ([.ref b])).length) Slot.unset).toArray = ls at hl ⊢
  have hl : lv_has ls 4 [(0, .ref b)] := hl
  refine x_new (T := TX4) (N := 6) (ci := 4) hx hb hts uX4 tyX4 tyX4_ok hown u_cl_RL_7 u_ib_RX4 u_in_RX4 hK hP hD hS hA rfl [.null, .null, .null, .null, .null, .null] (fun j hj => match j, hj with | 0, _ => rfl | 1, _ => rfl | 2, _ => rfl | 3, _ => rfl | 4, _ => rfl | 5, _ => rfl | j + 6, h => absurd h (by omega)) (Nat.le_of_ble_eq_true rfl) (Nat.le_of_ble_eq_true rfl) dL_law_0 (fun ad1 en1 H hg1 he1 hP hD hS => ?_)
  have hP : va_P D vwCl (xw 1 ad1 en1) H := hP
  have hD : xD (fun q : Nat => s.heap.size ≤ q) 1 ad1 := hD
  refine lv_dup hx hb dL_law_3 rfl ?_
  refine xc_initL (i := 0) (n := 1) ⟨hx, hb, hml, hown, hts⟩ hl.1 (c_X4_init l D cA ad1 en1 H.size he1) x4_blind (fun U hU hW => ⟨⟨⟨xB_of hK hN hP hU hW, by rw [hU], xD_w hD (fun _ _ => trivial)⟩, xQ_warm hW hQ⟩, h4.to hS (fun q h => by
    rcases h with ⟨j, hj, rfl⟩ | h
    · exact hD.2 j hj
    · exact Nat.le_trans hS.1 h) hU hW⟩) u_co_yX4_init u_in_RX4 u_im_yX4_init u_ml_RL_9 rfl (by decide +kernel) (Nat.le_of_ble_eq_true rfl) ⟨(Nat.le_of_ble_eq_true rfl), (Nat.le_of_ble_eq_true rfl)⟩ ⟨(Nat.le_of_ble_eq_true rfl), (Nat.le_of_ble_eq_true rfl)⟩ dL_law_4 hD hS hA (fun ad2 en2 H locs hp hP hD hS => ?_)
  obtain ⟨h0, hC⟩ := hp
  have h0 : ad2 0 = ad1 0 := h0
  have hC : CW cA ad2 en2 sp_S0 := hC
  refine x_tor (y := ad2 0) h0.symm ?_
  refine lv_astore_n (lv' := [(1, .ref (ad2 0)), (0, .ref b)]) hx hb dL_law_7 rfl hl (by decide) rfl (fun ls hl => ?_)
  refine x_new (T := TX5) (N := 17) (ci := 5) hx hb hts uX5 tyX5 tyX5_ok hown u_cl_RL_10 u_ib_RX5 u_in_RX5 hK hP hD hS hA rfl [.null, .null, .null, .null, .null, .int (xI 0), .null, .null, .null, .null, .int (xI 0), .null, .null, .null, .null, .null, .long 0] (fun j hj => match j, hj with | 0, _ => rfl | 1, _ => rfl | 2, _ => rfl | 3, _ => rfl | 4, _ => rfl | 5, _ => congrArg Value.int (show (0 : Int32) = xI 0 by decide +kernel) | 6, _ => rfl | 7, _ => rfl | 8, _ => rfl | 9, _ => rfl | 10, _ => congrArg Value.int (show (0 : Int32) = xI 0 by decide +kernel) | 11, _ => rfl | 12, _ => rfl | 13, _ => rfl | 14, _ => rfl | 15, _ => rfl | 16, _ => rfl | j + 17, h => absurd h (by omega)) (Nat.le_of_ble_eq_true rfl) (Nat.le_of_ble_eq_true rfl) dL_law_8 (fun ad3 en3 H hg3 he3 hP hD hS => ?_)
  have hP : va_P D vwCl (xw 54 ad3 en3) H := hP
  have hD : xD (fun q : Nat => s.heap.size ≤ q) 54 ad3 := hD
  refine lv_dup hx hb dL_law_11 rfl ?_
  refine xc_initL (i := 53) (n := 54) ⟨hx, hb, hml, hown, hts⟩ hl.1 (c_X5_init l D cA ad3 en3 H.size he3) xMg_blind (fun U hU hW => ⟨⟨xB_of hK hN hP hU hW, by rw [hU], xD_w hD (fun _ _ => trivial)⟩, xQ_warm hW hQ⟩) u_co_yX5_init u_in_RX5 u_im_yX5_init u_ml_RL_12 rfl (by decide +kernel) (Nat.le_of_ble_eq_true rfl) ⟨(Nat.le_of_ble_eq_true rfl), (Nat.le_of_ble_eq_true rfl)⟩ ⟨(Nat.le_of_ble_eq_true rfl), (Nat.le_of_ble_eq_true rfl)⟩ dL_law_12 hD hS hA (fun ad4 en4 H locs hp hP hD hS => ?_)
  obtain ⟨hg4, h53, M, hM, hR⟩ := hp
  have hg4 : xG 53 ad3 ad4 en3 en4 := hg4
  have h53 : ad4 53 = ad3 53 := h53
  have hM : MW cA ad4 en4 M := hM
  have hC : CW cA ad4 en4 sp_S0 := (hC.mv hg3 (by omega)).mv hg4 (by omega)
  have e0 : ad4 0 = ad2 0 := (hg4 0 (by omega)).1.trans (hg3 0 (by omega)).1
  refine x_tor (y := ad4 53) h53.symm ?_
  refine lv_astore_n (lv' := [(2, .ref (ad4 53)), (1, .ref (ad2 0)), (0, .ref b)]) hx hb dL_law_15 rfl hl (by decide) rfl (fun ls hl => ?_)
  have hl : lv_has ls 4 [(2, .ref (ad4 53)), (1, .ref (ad4 0)), (0, .ref b)] := by rw [e0]; exact hl
  refine x_iconst hx hb dL_law_16 ?_
  refine lv_istore_n (lv' := [(3, .int (xI 0)), (2, .ref (ad4 53)), (1, .ref (ad4 0)), (0, .ref b)]) hx hb dL_law_17 rfl hl (by decide) rfl (fun ls hl => ?_)
  refine x_ce (cells' := 68) (slots' := 8593) rfl rfl ?_
  refine law_loop hE hL hD (fun H1 locs1 ls hS1 => ?_) (L + 1) 0 sp_S0 M en4 H locs (by omega) (by omega) (by omega) hC hM hR hP hS ls (lv_sub hl [3, 2, 1, 0] rfl)
  refine va_forget (fun q hq => hS1.2.2 q hq) ?_
  refine W.widen (k := 600000) (n := 7302250) (Nat.le_of_ble_eq_true rfl) (Nat.le_of_ble_eq_true rfl) ?_
  refine lv_iconst (v := 1) hx hb dL_law_2036 (by decide) ?_
  exact lw_ret hx hb hr hlocks dL_law_2037
