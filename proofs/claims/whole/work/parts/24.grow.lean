/-! worlds that grow -/
/-- below n all is as it was -/
def xG (n : Nat) (ad ad' : Nat → Nat) (en en' : Nat → va_E) : Prop := ∀ i : Nat, i < n → ad' i = ad i ∧ en' i = en i
section XG
variable {n n' : Nat} {a0 a1 a2 : Nat → Nat} {e0 e1 e2 : Nat → va_E} {cA : Nat → ClassId} {i m : Nat} {f : Nat → Int}
theorem xG.rf : xG n a0 a0 e0 e0 := fun _ _ => ⟨rfl, rfl⟩
theorem xG.tr (h1 : xG n a0 a1 e0 e1) (h2 : xG n' a1 a2 e1 e2) (hn : n ≤ n') : xG n a0 a2 e0 e2 := fun i hi => ⟨(h2 i (by omega)).1.trans (h1 i hi).1, (h2 i (by omega)).2.trans (h1 i hi).2⟩
theorem xG.up (h : xG n a0 a1 e0 e1) {x : va_E} (hi : n ≤ i) : xG n a0 a1 e0 (va_up e1 i x) := fun j hj => ⟨(h j hj).1, by rw [va_up_ne _ _ (by omega)]; exact (h j hj).2⟩
theorem xG.le (h : xG n a0 a1 e0 e1) (hi : n' ≤ n) : xG n' a0 a1 e0 e1 := fun j hj => h j (by omega)
theorem XR.mv (h : XR cA a0 e0 i m f) (g : xG n a0 a1 e0 e1) (hi : i + 1 < n) : XR cA a1 e1 i m f := by
  obtain ⟨b1, ⟨g', b2, b3⟩, b4, b5⟩ := h
  refine ⟨?_, ⟨g', (g (i + 1) (by omega)).2.trans b2, b3⟩, b4, b5⟩
  rw [(g (i + 1) (by omega)).1]
  exact (g i (by omega)).2.trans b1
theorem XT.mv {o : Option xRow} (h : XT cA a0 e0 i o) (g : xG n a0 a1 e0 e1) (hi : i + 2 < n) : XT cA a1 e1 i o := by
  cases o with
  | none =>
    obtain ⟨b1, m, f, b2⟩ := h
    exact ⟨by rw [(g (i + 1) (by omega)).1]; exact (g i (by omega)).2.trans b1, m, f, b2.mv g (by omega)⟩
  | some r => exact ⟨by rw [(g (i + 1) (by omega)).1]; exact (g i (by omega)).2.trans h.1, h.2.mv g (by omega)⟩
theorem XP.mv {P : xPts} (h : XP cA a0 e0 P) (g : xG n a0 a1 e0 e1) (hi : 8 < n) : XP cA a1 e1 P := by
  obtain ⟨h1, ⟨wn, h2, h3⟩, ⟨g1, h4, h5⟩, ⟨g2, h6, h7⟩, h8⟩ := h
  refine ⟨?_, ⟨wn, h2.mv g (by omega), h3⟩, ⟨g1, (g 7 (by omega)).2.trans h4, h5⟩, ⟨g2, (g 8 (by omega)).2.trans h6, h7⟩, h8⟩
  rw [(g 5 (by omega)).1, (g 7 (by omega)).1, (g 8 (by omega)).1]
  exact (g 4 (by omega)).2.trans h1
theorem XC.mv {o : Option xCut} (h : XC cA a0 e0 i o) (g : xG n a0 a1 e0 e1) (hi : i + 3 < n) : XC cA a1 e1 i o := by
  cases o with
  | none =>
    obtain ⟨G, pl, h1, ⟨m, f, h2⟩, g1, h3⟩ := h
    exact ⟨G, pl, by rw [(g (i + 1) (by omega)).1, (g (i + 3) (by omega)).1]; exact (g i (by omega)).2.trans h1, ⟨m, f, h2.mv g (by omega)⟩, g1, (g _ (by omega)).2.trans h3⟩
  | some q =>
    obtain ⟨h1, h2, h3, g1, h4, h5⟩ := h
    exact ⟨by rw [(g (i + 1) (by omega)).1, (g (i + 3) (by omega)).1]; exact (g i (by omega)).2.trans h1, h2.mv g (by omega), h3, g1, (g _ (by omega)).2.trans h4, h5⟩
theorem CW.mv {S : xSt} (h : CW cA a0 e0 S) (g : xG n a0 a1 e0 e1) (hi : 53 ≤ n) : CW cA a1 e1 S := by
  obtain ⟨h0, ⟨g1, h1, h1'⟩, ⟨g2, h2, h2'⟩, ⟨g3, h3, h3'⟩, h4, h5, ⟨m6, f6, h6⟩, h7, h8, h9⟩ := h
  refine ⟨?_, ⟨g1, (g 1 (by omega)).2.trans h1, fun b hb => by rw [(g _ (by omega)).1]; exact h1' b hb⟩, ⟨g2, (g 2 (by omega)).2.trans h2, fun b hb => by rw [(g _ (by omega)).1]; exact h2' b hb⟩, ⟨g3, (g 3 (by omega)).2.trans h3, fun b hb => by rw [(g _ (by omega)).1]; exact h3' b hb⟩, h4.mv g (by omega), h5.mv g (by omega), ⟨m6, f6, h6.mv g (by omega)⟩, fun b hb => (h7 b hb).mv g (by omega), fun b hb => (h8 b hb).mv g (by omega), fun b hb => (h9 b hb).mv g (by omega)⟩
  rw [(g 1 (by omega)).1, (g 2 (by omega)).1, (g 3 (by omega)).1, (g 4 (by omega)).1, (g 9 (by omega)).1, (g 11 (by omega)).1]
  exact (g 0 (by omega)).2.trans h0
end XG
/-- what makers need beside -/
def xNestM : List Cond := [.methodLinkNest RX4 29 yX1_init RX4, .methodLinkNest RX1 11 yX2_init RX4, .methodLinkNest RX4 34 yX2_init RX4, .methodLinkNest RX4 42 yX3_init RX4, .methodLinkNest RX3 9 yX2_init RX4, .methodLinkNest RX4 43 yX0_init RX4, .methodLinkNest RX0 11 yX2_init RX4]
def xQ (U : State) : Prop := (∀ w ∈ xNestM, va_Nw w U) ∧ va_AO "RowsOfSigns$Row" U ∧ va_AO "RowsOfSigns$Text" U ∧ va_AO "RowsOfSigns$Cutter" U
theorem xQ_warm {s U : State} (hW : s.WarmedH U.vm) (h : xQ s) : xQ U := by
  refine ⟨fun w hw => ?_, va_AO.moved hW.alike h.2.1, va_AO.moved hW.alike h.2.2.1, va_AO.moved hW.alike h.2.2.2⟩
  have hz := h.1 w hw
  simp only [xNestM, List.mem_cons, List.not_mem_nil, or_false] at hw
  rcases hw with rfl | rfl | rfl | rfl | rfl | rfl | rfl <;> exact va_Nw.warmM hW hz
theorem xQ_same {u U : State} (hv : u.vm = U.vm) (h : xQ u) : xQ U := by
  refine ⟨fun w hw => ?_, va_AO.moved (by rw [hv]; exact Vm.Alike.refl _) h.2.1, va_AO.moved (by rw [hv]; exact Vm.Alike.refl _) h.2.2.1, va_AO.moved (by rw [hv]; exact Vm.Alike.refl _) h.2.2.2⟩
  have hz := h.1 w hw
  simp only [xNestM, List.mem_cons, List.not_mem_nil, or_false] at hw
  rcases hw with rfl | rfl | rfl | rfl | rfl | rfl | rfl <;> exact va_Nw.same rfl hv hz
def xMg (D : va_G) (cA : Nat → ClassId) (n : Nat) (ad : Nat → Nat) (en : Nat → va_E) (sz : Nat) (U : State) : Prop := xM D cA n ad en sz U ∧ xQ U
def xEg (D : va_G) (n' n : Nat) (ad : Nat → Nat) (sz : Nat) (u : (Nat → Nat) × (Nat → va_E)) (t : State) : Prop := va_P D vwCl (xw n' u.1 u.2) t.heap ∧ xD (xA n ad sz) n' u.1
theorem xMg_blind {D : va_G} {cA : Nat → ClassId} {n : Nat} {ad : Nat → Nat} {en : Nat → va_E} {sz : Nat} {av : List Value} : FrameBlind (va_Pc av (xMg D cA n ad en sz)) := fun a U g mk q => ⟨q.1, ⟨xB_calling g mk a q.2.1.1, q.2.1.2.1, q.2.1.2.2⟩, xQ_same (u := U) (U := U.calling g mk a) rfl q.2.2⟩
abbrev xrg (fr mc ms lo : Nat) : Room := { frames := fr, cells := mc, slots := ms, locals := lo }
theorem xI_z : (0 : Int32) = xI ((0 : Nat) : Int) := by decide +kernel
theorem xI_o : (1 : Int32) = xI 1 := by decide +kernel
section XGW
variable {p : Program} {l : Launch} {e : Env} {R : Room} {s : State} {m : MethodId} {args : Array Value} {below : List Frame} {meth : Method} {c : Code} {H : Heap} {locs : List Loc} {cells slots : Nat} {Q : State → Prop}
variable {cc bytes : ByteArray} {pc : Nat} {ls : Array Slot} {rest st0 As : List Value} {D : va_G} {cA : Nat → ClassId} {n : Nat} {ad : Nat → Nat} {en : Nat → va_E} {A : Nat → Prop} {H0 : Heap} {own C : String} {y : MethodName} {maxL nL nn index fr lo : Nat} {ret : Option FieldType}
theorem x_ce {cells' slots' : Nat} (h1 : cells = cells') (h2 : slots = slots') {g : JFrame} (kk : W p l e R s m args below meth c H locs cells' slots' Q g) : W p l e R s m args below meth c H locs cells slots Q g := by rw [h1, h2]; exact kk
theorem x_tor1 {v : Value} {x y : Nat} (h : x = y) (kk : W p l e R s m args below meth c H locs cells slots Q (F0 m pc ls (v :: .ref y :: rest))) : W p l e R s m args below meth c H locs cells slots Q (F0 m pc ls (v :: .ref x :: rest)) := by rw [h]; exact kk
theorem x_tor2 {v w : Value} {x y : Nat} (h : x = y) (kk : W p l e R s m args below meth c H locs cells slots Q (F0 m pc ls (v :: w :: .ref y :: rest))) : W p l e R s m args below meth c H locs cells slots Q (F0 m pc ls (v :: w :: .ref x :: rest)) := by rw [h]; exact kk
theorem xG_push {q : Nat} {x : va_E} : xG n ad (va_up ad n q) en (va_up en n x) := fun i hi => ⟨va_up_ne _ _ (by omega), va_up_ne _ _ (by omega)⟩
theorem x_newi (hx : p.tables.exec = Jvm.exec) (hb : c.code = cc) (hts : ∀ w ∈ xU, w.before args s = true) (hK : va_K D vwCl (xty cA) s) (hP : va_P D vwCl (xw n ad en) H) (hD : xD A n ad) (hS : va_S A H0 H locs) (hA : ∀ q, H0.size ≤ q → A q) {z : Int} {k : Nat} (hz : z = (k : Int) ∧ k ≤ 100000) (hcells : cells + 1 ≤ R.cells) (hslots : slots + k ≤ R.slots) (hdg : decode cc pc = .ok (.newarray .int, 2))
    (kk : ∀ (ad' : Nat → Nat) (en' : Nat → va_E) (H1 : Heap), xG n ad ad' en en' → en' n = .inl (cA 0, k, .inl (fun _ => 0)) → va_P D vwCl (xw (n + 1) ad' en') H1 → xD A (n + 1) ad' → va_S A H0 H1 locs → W p l e R s m args below meth c H1 locs (cells + 1) (slots + k) Q (F0 m (pc + 2) ls (.ref (ad' n) :: rest))) : W p l e R s m args below meth c H locs cells slots Q (F0 m pc ls (.int (xI z) :: rest)) := by
  refine va_newa hx hb (atype := .int) (ty := .int) (hts _ u_ac_int) rfl hK hP (xD_to hD en) hS hA (a0 := (k, .inl (fun _ => 0))) (fun _ => rfl) (by rw [Int32.lt_iff_toInt_lt, xI_toInt (by omega)]; show ¬ (z < 0); omega) (by rw [xI_clamp (by omega)]; omega) (by show k * 4 ≤ _; omega) hcells hslots hdg (fun q c9 H1 hK1 hP1 hD1 hS1 => ?_)
  have e0 : c9 = cA 0 := Option.some.inj ((hK1.2 5 _ rfl).2.symm.trans (hK.2 0 _ rfl).2)
  subst e0
  rw [xw_push] at hP1 hD1
  have k2 := kk (va_up ad n q) (va_up en n (.inl (cA 0, k, .inl (fun _ => 0)))) H1 xG_push (va_up_self _ _ _) hP1 (xD_of hD1) hS1
  rw [va_up_self] at k2
  exact k2
theorem x_newz (hx : p.tables.exec = Jvm.exec) (hb : c.code = cc) (hts : ∀ w ∈ xU, w.before args s = true) (hK : va_K D vwCl (xty cA) s) (hP : va_P D vwCl (xw n ad en) H) (hD : xD A n ad) (hS : va_S A H0 H locs) (hA : ∀ q, H0.size ≤ q → A q) {z : Int} {k : Nat} (hz : z = (k : Int) ∧ k ≤ 100000) (hcells : cells + 1 ≤ R.cells) (hslots : slots + k ≤ R.slots) (hdg : decode cc pc = .ok (.newarray .boolean, 2))
    (kk : ∀ (ad' : Nat → Nat) (en' : Nat → va_E) (H1 : Heap), xG n ad ad' en en' → en' n = .inl (cA 1, k, .inl (fun _ => 0)) → va_P D vwCl (xw (n + 1) ad' en') H1 → xD A (n + 1) ad' → va_S A H0 H1 locs → W p l e R s m args below meth c H1 locs (cells + 1) (slots + k) Q (F0 m (pc + 2) ls (.ref (ad' n) :: rest))) : W p l e R s m args below meth c H locs cells slots Q (F0 m pc ls (.int (xI z) :: rest)) := by
  refine va_newa hx hb (atype := .boolean) (ty := .boolean) (hts _ u_ac_boolean) rfl hK hP (xD_to hD en) hS hA (a0 := (k, .inl (fun _ => 0))) (fun _ => rfl) (by rw [Int32.lt_iff_toInt_lt, xI_toInt (by omega)]; show ¬ (z < 0); omega) (by rw [xI_clamp (by omega)]; omega) (by show k * 1 ≤ _; omega) hcells hslots hdg (fun q c9 H1 hK1 hP1 hD1 hS1 => ?_)
  have e0 : c9 = cA 1 := Option.some.inj ((hK1.2 5 _ rfl).2.symm.trans (hK.2 1 _ rfl).2)
  subst e0
  rw [xw_push] at hP1 hD1
  have k2 := kk (va_up ad n q) (va_up en n (.inl (cA 1, k, .inl (fun _ => 0)))) H1 xG_push (va_up_self _ _ _) hP1 (xD_of hD1) hS1
  rw [va_up_self] at k2
  exact k2
theorem x_newq (hx : p.tables.exec = Jvm.exec) (hb : c.code = cc) (hts : ∀ w ∈ xU, w.before args s = true) (hown : s.vm.findClass own = some m.cls) (hl : Cond.classLink own index C ∈ xU) (hover : va_AO C s) (t0 : Nat) (h5 : t0 < 5) (ht : (xty cA)[t0]? = some (cA t0, .object C)) (hK : va_K D vwCl (xty cA) s) (hP : va_P D vwCl (xw n ad en) H) (hD : xD A n ad) (hS : va_S A H0 H locs) (hA : ∀ q, H0.size ≤ q → A q) {z : Int} {k : Nat} (hz : z = (k : Int) ∧ k ≤ 100000) (hcells : cells + 1 ≤ R.cells) (hslots : slots + k ≤ R.slots) (hdg : decode cc pc = .ok (.anewarray index, 3))
    (kk : ∀ (ad' : Nat → Nat) (en' : Nat → va_E) (H1 : Heap), xG n ad ad' en en' → en' n = .inl (cA t0, k, .inr (.inr (.inr (.inr (fun _ => none))))) → va_P D vwCl (xw (n + 1) ad' en') H1 → xD A (n + 1) ad' → va_S A H0 H1 locs → W p l e R s m args below meth c H1 locs (cells + 1) (slots + k) Q (F0 m (pc + 3) ls (.ref (ad' n) :: rest))) : W p l e R s m args below meth c H locs cells slots Q (F0 m pc ls (.int (xI z) :: rest)) := by
  refine va_newq hx hb hown (hts _ hl) hover hK hP (xD_to hD en) hS hA (by rw [Int32.lt_iff_toInt_lt, xI_toInt (by omega)]; show ¬ (z < 0); omega) (by rw [xI_clamp (by omega)]; omega) (by omega) hcells hslots hdg (fun q c9 H1 hK1 hP1 hD1 hS1 => ?_)
  have e0 : c9 = cA t0 := by
    obtain ⟨_, _, _, _, _, h9⟩ := (hK1.2 5 _ rfl).2
    obtain ⟨_, _, _, _, _, h8⟩ := (hK.2 t0 _ ht).2
    exact Option.some.inj (h9.symm.trans h8)
  subst e0
  rw [xw_push] at hP1 hD1
  have k2 := kk (va_up ad n q) (va_up en n (.inl (cA t0, k, .inr (.inr (.inr (.inr (fun _ => none))))))) H1 xG_push (va_up_self _ _ _) hP1 (xD_of hD1) hS1
  rw [va_up_self] at k2
  exact k2
theorem x_new {T : u_T} {N ci : Nat} (hx : p.tables.exec = Jvm.exec) (hb : c.code = cc) (hts : ∀ w ∈ xU, w.before args s = true) (hin : ∀ w ∈ u_ws C T N, w ∈ xU) (ty : Nat → FieldType) (hty : ∀ k, k < N → parseFieldDescriptor (T k).2.2.1 = some (ty k)) (hown : s.vm.findClass own = some m.cls) (hl : Cond.classLink own index C ∈ xU) (hib : Cond.instantiable C N ∈ xU) (hini : Cond.initialized C ∈ xU) (hK : va_K D vwCl (xty cA) s) (hP : va_P D vwCl (xw n ad en) H) (hD : xD A n ad) (hS : va_S A H0 H locs) (hA : ∀ q, H0.size ≤ q → A q) (hc : vwCl[ci]? = some (C, T, N)) (fs : List Value) (hfs : ∀ j, j < N → defaultValue (ty j) = vp_V fs j) (hcells : cells + 1 ≤ R.cells) (hslots : slots + N ≤ R.slots) (hdg : decode cc pc = .ok (.new index, 3))
    (kk : ∀ (ad' : Nat → Nat) (en' : Nat → va_E) (H1 : Heap), xG n ad ad' en en' → en' n = .inr (ci, fs) → va_P D vwCl (xw (n + 1) ad' en') H1 → xD A (n + 1) ad' → va_S A H0 H1 locs → W p l e R s m args below meth c H1 locs (cells + 1) (slots + N) Q (F0 m (pc + 3) ls (.ref (ad' n) :: rest))) : W p l e R s m args below meth c H locs cells slots Q (F0 m pc ls rest) := by
  refine va_new hx hb hts hin ty hty hown (hts _ hl) (hts _ hib) (hts _ hini) hK hP (xD_to hD en) hS hA hc hfs hcells hslots hdg (fun q H1 hP1 hD1 hS1 => ?_)
  rw [xw_push] at hP1 hD1
  have k2 := kk (va_up ad n q) (va_up en n (.inr (ci, fs))) H1 xG_push (va_up_self _ _ _) hP1 (xD_of hD1) hS1
  rw [va_up_self] at k2
  exact k2
theorem xc_init (F : CallFix p m c cc nL s args xU own) (hsz : ls.size = nL) {i n' mc ms : Nat} {host : String} {post : ((Nat → Nat) × (Nat → va_E)) → Prop} (hM : Met l y (Cond.code y bytes maxL none :: xU) (xrg fr mc ms lo) (va_Pc [.ref (ad i)] (xMg D cA n ad en H.size)) (va_Qv post (xEg D n' n ad H.size) (xA n ad H.size)) mc ms (xA n ad H.size)) (hco : Cond.code y bytes maxL none ∈ xU) (hini : Cond.initialized y.cls ∈ xU) (him : Cond.instanceMethod y ∈ xU) (hl : Cond.methodLinkNest own index y host ∈ xNestM) (hy : y.name = "<init>") (hd : y.cls ≠ "java/lang/invoke/MethodHandle" ∧ y.cls ≠ "java/lang/invoke/VarHandle" ∧ (parseMethodDescriptor y.desc).map (fun d => d.parameters.length) = some 0) (hK : va_K D vwCl (xty cA) s) (hN : xN s) (hQ : xQ s) (hP : va_P D vwCl (xw n ad en) H) (hroom : (rest.map fun v => v.category).sum ≤ 8) (hR : fr + 1 ≤ R.frames ∧ 8 + (maxL + 11) + lo ≤ R.locals) (hf : cells + mc ≤ R.cells ∧ slots + ms ≤ R.slots) (hdg : decode cc pc = .ok (.invokespecial index, 3)) (hD : xD A n ad) (hS : va_S A H0 H locs) (hA : ∀ q, H0.size ≤ q → A q)
    (kk : ∀ (ad' : Nat → Nat) (en' : Nat → va_E) (H1 : Heap) (locs1 : List Loc), post (ad', en') → va_P D vwCl (xw n' ad' en') H1 → xD A n' ad' → va_S A H0 H1 locs1 → W p l e R s m args below meth c H1 locs1 (cells + mc) (slots + ms) Q (F0 m (pc + 3) ls rest)) : W p l e R s m args below meth c H locs cells slots Q (F0 m pc ls (.ref (ad i) :: rest)) := by
  have hF : ∀ q, xA n ad H.size q → A q := fun q h => by
    rcases h with ⟨j, hj, rfl⟩ | h
    · exact hD.2 j hj
    · exact hA q (Nat.le_trans hS.1 h)
  refine va_callv (va_runIN (As := []) (rest := rest) F hM ⟨va_cnB 0 F.2.2.2.2 (xU_goodIn (own := own) (C := own) (index := 0) (y := y) (fun w h => by rcases List.mem_cons.mp h with rfl | h; exact hco; exact h)) rfl rfl rfl (hQ.1 _ hl) (F.2.2.2.2 _ hini) hd hR, hy, F.2.2.2.2 _ him⟩ ⟨xMg_blind, fun U hU hW => ⟨rfl, ⟨xB_of hK hN hP hU hW, by rw [hU], xD_w hD (fun _ _ => trivial)⟩, xQ_warm hW hQ⟩⟩ rfl rfl hsz rfl (lv_room hroom) hdg hf) hS (fun q _ h => hF q h) hF (fun u t H1 locs1 ht _ hp hB _ _ hS1 => kk u.1 u.2 H1 locs1 hp (by rw [← ht]; exact hB.1) (xD_w hB.2 hF) hS1)
theorem xe_g (hx : p.tables.exec = Jvm.exec) (hb : c.code = cc) (hr : meth.sig.returnType = none) (hlocks : meth.locks = false) {sz n' : Nat} {a0 : Nat → Nat} {post : ((Nat → Nat) × (Nat → va_E)) → Prop} (hP : va_P D vwCl (xw n' ad en) H) (hD : xD (xA n a0 sz) n' ad) (hS : va_S (xA n a0 sz) s.heap H locs) (hp : post (ad, en)) (hdg : decode cc pc = .ok (.return_, 1)) : W p l e R s m args below meth c H locs cells slots (MQ below (va_Qv post (xEg D n' n a0 sz) (xA n a0 sz)) args s cells slots (xA n a0 sz)) (F0 m pc ls []) :=
  W.vret hx hb hr (fun t ht _ => ⟨⟨(ad, en), rfl, hp, by show va_P D vwCl (xw n' ad en) t.heap; rw [ht]; exact hP, hD⟩, hS.F ht⟩) hS.2.2 hdg hlocks
end XGW
