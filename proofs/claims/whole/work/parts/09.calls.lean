/-! calls and ends -/
theorem xU_goodIn {own C : String} {index : Nat} {y : MethodName} {ws : List Cond} (hw : ∀ w ∈ ws, w ∈ xU) : GoodIn xU ws := fun w h => ⟨hw w h, good_of_word (xU_good w (hw w h))⟩
/-- a callee: an instance method; a static one -/
def xCal (C : String) (y : MethodName) (bytes : ByteArray) (maxL : Nat) (ret : Option FieldType) (nn : Nat) : Prop := Cond.instanceMethod y ∈ xU ∧ Cond.selects C y y ∈ xU ∧ Cond.initialized y.cls ∈ xU ∧ Cond.code y bytes maxL ret ∈ xU ∧ (y.cls ≠ "java/lang/invoke/MethodHandle" ∧ y.cls ≠ "java/lang/invoke/VarHandle" ∧ (parseMethodDescriptor y.desc).map (fun d => d.parameters.length) = some nn)
def xCalS (y : MethodName) (bytes : ByteArray) (maxL : Nat) (ret : Option FieldType) (nn : Nat) : Prop := Cond.static y ∈ xU ∧ Cond.initialized y.cls ∈ xU ∧ Cond.code y bytes maxL ret ∈ xU ∧ (y.cls ≠ "java/lang/invoke/MethodHandle" ∧ y.cls ≠ "java/lang/invoke/VarHandle" ∧ (parseMethodDescriptor y.desc).map (fun d => d.parameters.length) = some nn)
abbrev xrm (fr lo : Nat) : Room := { frames := fr, cells := 0, slots := 0, locals := lo }
section XC
variable {p : Program} {l : Launch} {e : Env} {R : Room} {s : State} {m : MethodId} {args : Array Value} {below : List Frame} {meth : Method} {c : Code} {H : Heap} {locs : List Loc} {cells slots : Nat} {Q : State → Prop}
variable {cc bytes : ByteArray} {pc : Nat} {ls : Array Slot} {rest st0 As : List Value} {D : va_G} {cA : Nat → ClassId} {n : Nat} {ad : Nat → Nat} {en : Nat → va_E} {A : Nat → Prop} {H0 : Heap} {own C : String} {y : MethodName} {maxL nL nn index fr lo : Nat} {ret : Option FieldType}
theorem x_cb (hts : ∀ w ∈ xU, w.before args s = true) (hco : Cond.code y bytes maxL ret ∈ xU) (hini : Cond.initialized y.cls ∈ xU) (hl : Cond.methodLink own index y ∈ xU) (hd : y.cls ≠ "java/lang/invoke/MethodHandle" ∧ y.cls ≠ "java/lang/invoke/VarHandle" ∧ (parseMethodDescriptor y.desc).map (fun d => d.parameters.length) = some nn) (hR : fr + 1 ≤ R.frames ∧ 8 + (maxL + 11) + lo ≤ R.locals) : CallB R s args own index y bytes maxL ret (Cond.code y bytes maxL ret :: xU) (xrm fr lo) 0 0 nn :=
  callB_of nn hts (xU_goodIn (own := own) (C := own) (index := 0) (y := y) (fun w h => by rcases List.mem_cons.mp h with rfl | h; exact hco; exact h)) rfl rfl rfl (hts _ hini) (hts _ hl) hd hR
theorem x_cw (hts : ∀ w ∈ xU, w.before args s = true) (hcal : xCal C y bytes maxL ret nn) (hl : Cond.methodLink own index y ∈ xU) (hR : fr + 1 ≤ R.frames ∧ 8 + (maxL + 11) + lo ≤ R.locals) : CallW R s args own C index y bytes maxL ret (Cond.code y bytes maxL ret :: xU) (xrm fr lo) 0 0 nn :=
  ⟨x_cb hts hcal.2.2.2.1 hcal.2.2.1 hl hcal.2.2.2.2 hR, hts _ hcal.1, hts _ hcal.2.1⟩
theorem x_cs (hts : ∀ w ∈ xU, w.before args s = true) (hcal : xCalS y bytes maxL ret nn) (hl : Cond.methodLink own index y ∈ xU) (hR : fr + 1 ≤ R.frames ∧ 8 + (maxL + 11) + lo ≤ R.locals) : CallB R s args own index y bytes maxL ret (Cond.code y bytes maxL ret :: xU) (xrm fr lo) 0 0 nn ∧ (Cond.static y).before args s = true :=
  ⟨x_cb hts hcal.2.2.1 hcal.2.1 hl hcal.2.2.2 hR, hts _ hcal.1⟩
theorem xv_i (F : CallFix p m c cc nL s args xU own) (hsz : ls.size = nL) {i : Nat} {r : Int32} (hM : Met l y (Cond.code y bytes maxL ret :: xU) (xrm fr lo) (va_Pc (.ref (ad i) :: As) (xB D cA n ad en)) (vp_Si (fun z => z = r)) 0 0 (fun _ => False)) (hcal : xCal C y bytes maxL ret nn) (hl : Cond.methodLink own index y ∈ xU) (hK : va_K D vwCl (xty cA) s) (hN : xN s) (hP : va_P D vwCl (xw n ad en) H) {ci : Nat} (hi : i < n) {fs : List Value} (he : en i = .inr (ci, fs)) {q : vw_C} (hc : vwCl[ci]? = some q) (hq : q.1 = C) (hnn : As.length = nn) (hst : st0 = As.reverse ++ .ref (ad i) :: rest) (hroom : (rest.map fun v => v.category).sum ≤ 8) (hR : fr + 1 ≤ R.frames ∧ 8 + (maxL + 11) + lo ≤ R.locals) (hf : cells ≤ R.cells ∧ slots ≤ R.slots) (hdg : decode cc pc = .ok (.invokevirtual index, 3))
    (kk : W p l e R s m args below meth c H locs cells slots Q (F0 m (pc + 3) ls (.int r :: rest))) : W p l e R s m args below meth c H locs cells slots Q (F0 m pc ls st0) := by
  subst hst
  subst hq
  refine vp_callSi (W.runV (As := As) (rest := rest) F hM (x_cw F.2.2.2.2 hcal hl hR) ⟨xB_blind, va_recv hK hP hc (xw_ate hi he), fun U hU hW => ⟨rfl, xB_of hK hN hP hU hW⟩⟩ rfl hnn hsz rfl (lv_room hroom) hdg ⟨hf.1, hf.2⟩) (fun z hz => ?_)
  subst hz
  exact kk
theorem xs_i (F : CallFix p m c cc nL s args xU own) (hsz : ls.size = nL) {r : Int32} (hM : Met l y (Cond.code y bytes maxL ret :: xU) (xrm fr lo) (va_Pc As (xB D cA n ad en)) (vp_Si (fun z => z = r)) 0 0 (fun _ => False)) (hcal : xCalS y bytes maxL ret nn) (hl : Cond.methodLink own index y ∈ xU) (hnn : As.length = nn) (hst : st0 = As.reverse ++ rest) (hroom : (rest.map fun v => v.category).sum ≤ 8) (hR : fr + 1 ≤ R.frames ∧ 8 + (maxL + 11) + lo ≤ R.locals) (hf : cells ≤ R.cells ∧ slots ≤ R.slots) (hdg : decode cc pc = .ok (.invokestatic index, 3)) (hK : va_K D vwCl (xty cA) s) (hN : xN s) (hP : va_P D vwCl (xw n ad en) H)
    (kk : W p l e R s m args below meth c H locs cells slots Q (F0 m (pc + 3) ls (.int r :: rest))) : W p l e R s m args below meth c H locs cells slots Q (F0 m pc ls st0) := by
  subst hst
  refine vp_callSi (W.runS (As := As) (rest := rest) F hM (x_cs F.2.2.2.2 hcal hl hR) ⟨xB_blind, fun U hU hW => ⟨rfl, xB_of hK hN hP hU hW⟩⟩ rfl hnn hsz rfl (lv_room hroom) hdg ⟨hf.1, hf.2⟩) (fun z hz => ?_)
  subst hz
  exact kk
theorem xt_i (F : CallFix p m c cc nL s args xU own) (hsz : ls.size = nL) {r : Int32} (hM : Met l y (Cond.code y bytes maxL ret :: xU) (xrm fr lo) (va_Pc As (fun _ => True)) (vp_Si (fun z => z = r)) 0 0 (fun _ => False)) (hcal : xCalS y bytes maxL ret nn) (hl : Cond.methodLink own index y ∈ xU) (hnn : As.length = nn) (hst : st0 = As.reverse ++ rest) (hroom : (rest.map fun v => v.category).sum ≤ 8) (hR : fr + 1 ≤ R.frames ∧ 8 + (maxL + 11) + lo ≤ R.locals) (hf : cells ≤ R.cells ∧ slots ≤ R.slots) (hdg : decode cc pc = .ok (.invokestatic index, 3)) 
    (kk : W p l e R s m args below meth c H locs cells slots Q (F0 m (pc + 3) ls (.int r :: rest))) : W p l e R s m args below meth c H locs cells slots Q (F0 m pc ls st0) := by
  subst hst
  refine vp_callSi (W.runS (As := As) (rest := rest) F hM (x_cs F.2.2.2.2 hcal hl hR) ⟨xT_blind, fun U hU hW => ⟨rfl, trivial⟩⟩ rfl hnn hsz rfl (lv_room hroom) hdg ⟨hf.1, hf.2⟩) (fun z hz => ?_)
  subst hz
  exact kk
theorem xv_l (F : CallFix p m c cc nL s args xU own) (hsz : ls.size = nL) {i : Nat} {r : Int64} (hM : Met l y (Cond.code y bytes maxL ret :: xU) (xrm fr lo) (va_Pc (.ref (ad i) :: As) (xB D cA n ad en)) (vp_Sl (fun z => z = r)) 0 0 (fun _ => False)) (hcal : xCal C y bytes maxL ret nn) (hl : Cond.methodLink own index y ∈ xU) (hK : va_K D vwCl (xty cA) s) (hN : xN s) (hP : va_P D vwCl (xw n ad en) H) {ci : Nat} (hi : i < n) {fs : List Value} (he : en i = .inr (ci, fs)) {q : vw_C} (hc : vwCl[ci]? = some q) (hq : q.1 = C) (hnn : As.length = nn) (hst : st0 = As.reverse ++ .ref (ad i) :: rest) (hroom : (rest.map fun v => v.category).sum ≤ 8) (hR : fr + 1 ≤ R.frames ∧ 8 + (maxL + 11) + lo ≤ R.locals) (hf : cells ≤ R.cells ∧ slots ≤ R.slots) (hdg : decode cc pc = .ok (.invokevirtual index, 3))
    (kk : W p l e R s m args below meth c H locs cells slots Q (F0 m (pc + 3) ls (.long r :: rest))) : W p l e R s m args below meth c H locs cells slots Q (F0 m pc ls st0) := by
  subst hst
  subst hq
  refine vp_callSl (W.runV (As := As) (rest := rest) F hM (x_cw F.2.2.2.2 hcal hl hR) ⟨xB_blind, va_recv hK hP hc (xw_ate hi he), fun U hU hW => ⟨rfl, xB_of hK hN hP hU hW⟩⟩ rfl hnn hsz rfl (lv_room hroom) hdg ⟨hf.1, hf.2⟩) (fun z hz => ?_)
  subst hz
  exact kk
theorem xs_l (F : CallFix p m c cc nL s args xU own) (hsz : ls.size = nL) {r : Int64} (hM : Met l y (Cond.code y bytes maxL ret :: xU) (xrm fr lo) (va_Pc As (xB D cA n ad en)) (vp_Sl (fun z => z = r)) 0 0 (fun _ => False)) (hcal : xCalS y bytes maxL ret nn) (hl : Cond.methodLink own index y ∈ xU) (hnn : As.length = nn) (hst : st0 = As.reverse ++ rest) (hroom : (rest.map fun v => v.category).sum ≤ 8) (hR : fr + 1 ≤ R.frames ∧ 8 + (maxL + 11) + lo ≤ R.locals) (hf : cells ≤ R.cells ∧ slots ≤ R.slots) (hdg : decode cc pc = .ok (.invokestatic index, 3)) (hK : va_K D vwCl (xty cA) s) (hN : xN s) (hP : va_P D vwCl (xw n ad en) H)
    (kk : W p l e R s m args below meth c H locs cells slots Q (F0 m (pc + 3) ls (.long r :: rest))) : W p l e R s m args below meth c H locs cells slots Q (F0 m pc ls st0) := by
  subst hst
  refine vp_callSl (W.runS (As := As) (rest := rest) F hM (x_cs F.2.2.2.2 hcal hl hR) ⟨xB_blind, fun U hU hW => ⟨rfl, xB_of hK hN hP hU hW⟩⟩ rfl hnn hsz rfl (lv_room hroom) hdg ⟨hf.1, hf.2⟩) (fun z hz => ?_)
  subst hz
  exact kk
theorem xt_l (F : CallFix p m c cc nL s args xU own) (hsz : ls.size = nL) {r : Int64} (hM : Met l y (Cond.code y bytes maxL ret :: xU) (xrm fr lo) (va_Pc As (fun _ => True)) (vp_Sl (fun z => z = r)) 0 0 (fun _ => False)) (hcal : xCalS y bytes maxL ret nn) (hl : Cond.methodLink own index y ∈ xU) (hnn : As.length = nn) (hst : st0 = As.reverse ++ rest) (hroom : (rest.map fun v => v.category).sum ≤ 8) (hR : fr + 1 ≤ R.frames ∧ 8 + (maxL + 11) + lo ≤ R.locals) (hf : cells ≤ R.cells ∧ slots ≤ R.slots) (hdg : decode cc pc = .ok (.invokestatic index, 3)) 
    (kk : W p l e R s m args below meth c H locs cells slots Q (F0 m (pc + 3) ls (.long r :: rest))) : W p l e R s m args below meth c H locs cells slots Q (F0 m pc ls st0) := by
  subst hst
  refine vp_callSl (W.runS (As := As) (rest := rest) F hM (x_cs F.2.2.2.2 hcal hl hR) ⟨xT_blind, fun U hU hW => ⟨rfl, trivial⟩⟩ rfl hnn hsz rfl (lv_room hroom) hdg ⟨hf.1, hf.2⟩) (fun z hz => ?_)
  subst hz
  exact kk
theorem xv_q (F : CallFix p m c cc nL s args xU own) (hsz : ls.size = nL) {i : Nat} {r : Option Nat} (hM : Met l y (Cond.code y bytes maxL ret :: xU) (xrm fr lo) (va_Pc (.ref (ad i) :: As) (xB D cA n ad en)) (va_Sq (fun z => z = r)) 0 0 (fun _ => False)) (hcal : xCal C y bytes maxL ret nn) (hl : Cond.methodLink own index y ∈ xU) (hK : va_K D vwCl (xty cA) s) (hN : xN s) (hP : va_P D vwCl (xw n ad en) H) {ci : Nat} (hi : i < n) {fs : List Value} (he : en i = .inr (ci, fs)) {q : vw_C} (hc : vwCl[ci]? = some q) (hq : q.1 = C) (hnn : As.length = nn) (hst : st0 = As.reverse ++ .ref (ad i) :: rest) (hroom : (rest.map fun v => v.category).sum ≤ 8) (hR : fr + 1 ≤ R.frames ∧ 8 + (maxL + 11) + lo ≤ R.locals) (hf : cells ≤ R.cells ∧ slots ≤ R.slots) (hdg : decode cc pc = .ok (.invokevirtual index, 3))
    (kk : W p l e R s m args below meth c H locs cells slots Q (F0 m (pc + 3) ls (va_rf r :: rest))) : W p l e R s m args below meth c H locs cells slots Q (F0 m pc ls st0) := by
  subst hst
  subst hq
  refine va_csq (W.runV (As := As) (rest := rest) F hM (x_cw F.2.2.2.2 hcal hl hR) ⟨xB_blind, va_recv hK hP hc (xw_ate hi he), fun U hU hW => ⟨rfl, xB_of hK hN hP hU hW⟩⟩ rfl hnn hsz rfl (lv_room hroom) hdg ⟨hf.1, hf.2⟩) (fun z hz => ?_)
  subst hz
  exact kk
theorem xm_i (F : CallFix p m c cc nL s args xU own) (hsz : ls.size = nL) {i : Nat} {post : Int32 → (Nat → va_E) → Prop} (hM : Met l y (Cond.code y bytes maxL ret :: xU) (xrm fr lo) (va_Pc (.ref (ad i) :: As) (xM D cA n ad en H.size)) (va_Qi post (xE D n ad) (xA n ad H.size)) 0 0 (xA n ad H.size)) (hcal : xCal C y bytes maxL ret nn) (hl : Cond.methodLink own index y ∈ xU) (hK : va_K D vwCl (xty cA) s) (hN : xN s) (hP : va_P D vwCl (xw n ad en) H) {ci : Nat} (hi : i < n) {fs : List Value} (he : en i = .inr (ci, fs)) {q : vw_C} (hc : vwCl[ci]? = some q) (hq : q.1 = C) (hnn : As.length = nn) (hst : st0 = As.reverse ++ .ref (ad i) :: rest) (hroom : (rest.map fun v => v.category).sum ≤ 8) (hR : fr + 1 ≤ R.frames ∧ 8 + (maxL + 11) + lo ≤ R.locals) (hf : cells ≤ R.cells ∧ slots ≤ R.slots) (hdg : decode cc pc = .ok (.invokevirtual index, 3)) (hD : xD A n ad) (hS : va_S A H0 H locs) (hA : ∀ q, H0.size ≤ q → A q)
    (kk : ∀ (r : Int32) (u : Nat → va_E) (H1 : Heap) (locs1 : List Loc), post r u → va_P D vwCl (xw n ad u) H1 → va_S A H0 H1 locs1 → W p l e R s m args below meth c H1 locs1 cells slots Q (F0 m (pc + 3) ls (.int r :: rest))) : W p l e R s m args below meth c H locs cells slots Q (F0 m pc ls st0) := by
  subst hst
  subst hq
  have hF : ∀ q, xA n ad H.size q → A q := fun q h => by
    rcases h with ⟨j, hj, rfl⟩ | h
    · exact hD.2 j hj
    · exact hA q (Nat.le_trans hS.1 h)
  refine va_calli (va_runV (As := As) (rest := rest) F hM (x_cw F.2.2.2.2 hcal hl hR) ⟨xM_blind, va_recv hK hP hc (xw_ate hi he), fun U hU hW => ⟨rfl, xB_of hK hN hP hU hW, by rw [hU], xD_w hD (fun _ _ => trivial)⟩⟩ rfl hnn hsz rfl (lv_room hroom) hdg ⟨hf.1, hf.2⟩) hS (fun q _ h => hF q h) hF (fun r u t H1 locs1 ht _ hp hB _ _ hS1 => kk r u H1 locs1 hp (by rw [← ht]; exact hB) hS1)
theorem xm_l (F : CallFix p m c cc nL s args xU own) (hsz : ls.size = nL) {i : Nat} {post : Int64 → (Nat → va_E) → Prop} (hM : Met l y (Cond.code y bytes maxL ret :: xU) (xrm fr lo) (va_Pc (.ref (ad i) :: As) (xM D cA n ad en H.size)) (va_Ql post (xE D n ad) (xA n ad H.size)) 0 0 (xA n ad H.size)) (hcal : xCal C y bytes maxL ret nn) (hl : Cond.methodLink own index y ∈ xU) (hK : va_K D vwCl (xty cA) s) (hN : xN s) (hP : va_P D vwCl (xw n ad en) H) {ci : Nat} (hi : i < n) {fs : List Value} (he : en i = .inr (ci, fs)) {q : vw_C} (hc : vwCl[ci]? = some q) (hq : q.1 = C) (hnn : As.length = nn) (hst : st0 = As.reverse ++ .ref (ad i) :: rest) (hroom : (rest.map fun v => v.category).sum ≤ 8) (hR : fr + 1 ≤ R.frames ∧ 8 + (maxL + 11) + lo ≤ R.locals) (hf : cells ≤ R.cells ∧ slots ≤ R.slots) (hdg : decode cc pc = .ok (.invokevirtual index, 3)) (hD : xD A n ad) (hS : va_S A H0 H locs) (hA : ∀ q, H0.size ≤ q → A q)
    (kk : ∀ (r : Int64) (u : Nat → va_E) (H1 : Heap) (locs1 : List Loc), post r u → va_P D vwCl (xw n ad u) H1 → va_S A H0 H1 locs1 → W p l e R s m args below meth c H1 locs1 cells slots Q (F0 m (pc + 3) ls (.long r :: rest))) : W p l e R s m args below meth c H locs cells slots Q (F0 m pc ls st0) := by
  subst hst
  subst hq
  have hF : ∀ q, xA n ad H.size q → A q := fun q h => by
    rcases h with ⟨j, hj, rfl⟩ | h
    · exact hD.2 j hj
    · exact hA q (Nat.le_trans hS.1 h)
  refine va_calll (va_runV (As := As) (rest := rest) F hM (x_cw F.2.2.2.2 hcal hl hR) ⟨xM_blind, va_recv hK hP hc (xw_ate hi he), fun U hU hW => ⟨rfl, xB_of hK hN hP hU hW, by rw [hU], xD_w hD (fun _ _ => trivial)⟩⟩ rfl hnn hsz rfl (lv_room hroom) hdg ⟨hf.1, hf.2⟩) hS (fun q _ h => hF q h) hF (fun r u t H1 locs1 ht _ hp hB _ _ hS1 => kk r u H1 locs1 hp (by rw [← ht]; exact hB) hS1)
theorem xm_q (F : CallFix p m c cc nL s args xU own) (hsz : ls.size = nL) {i : Nat} {post : Option Nat → (Nat → va_E) → Prop} (hM : Met l y (Cond.code y bytes maxL ret :: xU) (xrm fr lo) (va_Pc (.ref (ad i) :: As) (xM D cA n ad en H.size)) (va_Qq post (xE D n ad) (xA n ad H.size)) 0 0 (xA n ad H.size)) (hcal : xCal C y bytes maxL ret nn) (hl : Cond.methodLink own index y ∈ xU) (hK : va_K D vwCl (xty cA) s) (hN : xN s) (hP : va_P D vwCl (xw n ad en) H) {ci : Nat} (hi : i < n) {fs : List Value} (he : en i = .inr (ci, fs)) {q : vw_C} (hc : vwCl[ci]? = some q) (hq : q.1 = C) (hnn : As.length = nn) (hst : st0 = As.reverse ++ .ref (ad i) :: rest) (hroom : (rest.map fun v => v.category).sum ≤ 8) (hR : fr + 1 ≤ R.frames ∧ 8 + (maxL + 11) + lo ≤ R.locals) (hf : cells ≤ R.cells ∧ slots ≤ R.slots) (hdg : decode cc pc = .ok (.invokevirtual index, 3)) (hD : xD A n ad) (hS : va_S A H0 H locs) (hA : ∀ q, H0.size ≤ q → A q)
    (kk : ∀ (r : Option Nat) (u : Nat → va_E) (H1 : Heap) (locs1 : List Loc), post r u → va_P D vwCl (xw n ad u) H1 → va_S A H0 H1 locs1 → W p l e R s m args below meth c H1 locs1 cells slots Q (F0 m (pc + 3) ls (va_rf r :: rest))) : W p l e R s m args below meth c H locs cells slots Q (F0 m pc ls st0) := by
  subst hst
  subst hq
  have hF : ∀ q, xA n ad H.size q → A q := fun q h => by
    rcases h with ⟨j, hj, rfl⟩ | h
    · exact hD.2 j hj
    · exact hA q (Nat.le_trans hS.1 h)
  refine va_callq (va_runV (As := As) (rest := rest) F hM (x_cw F.2.2.2.2 hcal hl hR) ⟨xM_blind, va_recv hK hP hc (xw_ate hi he), fun U hU hW => ⟨rfl, xB_of hK hN hP hU hW, by rw [hU], xD_w hD (fun _ _ => trivial)⟩⟩ rfl hnn hsz rfl (lv_room hroom) hdg ⟨hf.1, hf.2⟩) hS (fun q _ h => hF q h) hF (fun r u t H1 locs1 ht _ hp hB _ _ hS1 => kk r u H1 locs1 hp (by rw [← ht]; exact hB) hS1)
theorem xm_v (F : CallFix p m c cc nL s args xU own) (hsz : ls.size = nL) {i : Nat} {post : (Nat → va_E) → Prop} (hM : Met l y (Cond.code y bytes maxL ret :: xU) (xrm fr lo) (va_Pc (.ref (ad i) :: As) (xM D cA n ad en H.size)) (va_Qv post (xE D n ad) (xA n ad H.size)) 0 0 (xA n ad H.size)) (hcal : xCal C y bytes maxL ret nn) (hl : Cond.methodLink own index y ∈ xU) (hK : va_K D vwCl (xty cA) s) (hN : xN s) (hP : va_P D vwCl (xw n ad en) H) {ci : Nat} (hi : i < n) {fs : List Value} (he : en i = .inr (ci, fs)) {q : vw_C} (hc : vwCl[ci]? = some q) (hq : q.1 = C) (hnn : As.length = nn) (hst : st0 = As.reverse ++ .ref (ad i) :: rest) (hroom : (rest.map fun v => v.category).sum ≤ 8) (hR : fr + 1 ≤ R.frames ∧ 8 + (maxL + 11) + lo ≤ R.locals) (hf : cells ≤ R.cells ∧ slots ≤ R.slots) (hdg : decode cc pc = .ok (.invokevirtual index, 3)) (hD : xD A n ad) (hS : va_S A H0 H locs) (hA : ∀ q, H0.size ≤ q → A q)
    (kk : ∀ (u : Nat → va_E) (H1 : Heap) (locs1 : List Loc), post u → va_P D vwCl (xw n ad u) H1 → va_S A H0 H1 locs1 → W p l e R s m args below meth c H1 locs1 cells slots Q (F0 m (pc + 3) ls (rest))) : W p l e R s m args below meth c H locs cells slots Q (F0 m pc ls st0) := by
  subst hst
  subst hq
  have hF : ∀ q, xA n ad H.size q → A q := fun q h => by
    rcases h with ⟨j, hj, rfl⟩ | h
    · exact hD.2 j hj
    · exact hA q (Nat.le_trans hS.1 h)
  refine va_callv (va_runV (As := As) (rest := rest) F hM (x_cw F.2.2.2.2 hcal hl hR) ⟨xM_blind, va_recv hK hP hc (xw_ate hi he), fun U hU hW => ⟨rfl, xB_of hK hN hP hU hW, by rw [hU], xD_w hD (fun _ _ => trivial)⟩⟩ rfl hnn hsz rfl (lv_room hroom) hdg ⟨hf.1, hf.2⟩) hS (fun q _ h => hF q h) hF (fun u t H1 locs1 ht _ hp hB _ _ hS1 => kk u H1 locs1 hp (by rw [← ht]; exact hB) hS1)
end XC
section XE
variable {p : Program} {l : Launch} {e : Env} {R : Room} {s : State} {m : MethodId} {args : Array Value} {below : List Frame} {meth : Method} {c : Code} {H : Heap} {locs : List Loc} {cells slots : Nat} {Q : State → Prop}
variable {cc bytes : ByteArray} {pc : Nat} {ls : Array Slot} {rest st0 As : List Value} {D : va_G} {cA : Nat → ClassId} {n : Nat} {ad : Nat → Nat} {en : Nat → va_E} {A : Nat → Prop} {H0 : Heap} {own C : String} {y : MethodName} {maxL nL nn index fr lo : Nat} {ret : Option FieldType}
/-! ends of methods that only read -/
theorem xr_i (hx : p.tables.exec = Jvm.exec) (hb : c.code = cc) (hr : meth.sig.returnType = some .int) (hlocks : meth.locks = false) {v w : Int32} (h : v = w) (hdg : decode cc pc = .ok (.ireturn, 1)) : W p l e R s m args below meth c s.heap [] 0 0 (MQ below (vp_Si (fun z => z = w)) args s 0 0 (fun _ => False)) (F0 m pc ls [.int v]) :=
  W.iret hx hb hr (fun t ht _ => ⟨v, rfl, h, ht⟩) (fun _ q => absurd q List.not_mem_nil) hdg hlocks
theorem xr_z (hx : p.tables.exec = Jvm.exec) (hb : c.code = cc) (hr : meth.sig.returnType = some .boolean) (hlocks : meth.locks = false) {v : Int32} {p1 : Prop} (h : v = xb p1) (hdg : decode cc pc = .ok (.ireturn, 1)) : W p l e R s m args below meth c s.heap [] 0 0 (MQ below (vp_Si (fun z => z = xb p1)) args s 0 0 (fun _ => False)) (F0 m pc ls [.int v]) :=
  W.zret hx hb hr (by rw [h]; exact xb_nar p1) (fun t ht _ => ⟨v, rfl, h, ht⟩) (fun _ q => absurd q List.not_mem_nil) hdg hlocks
theorem xr_l (hx : p.tables.exec = Jvm.exec) (hb : c.code = cc) (hr : meth.sig.returnType = some .long) (hlocks : meth.locks = false) {v w : Int64} (h : v = w) (hdg : decode cc pc = .ok (.lreturn, 1)) : W p l e R s m args below meth c s.heap [] 0 0 (MQ below (vp_Sl (fun z => z = w)) args s 0 0 (fun _ => False)) (F0 m pc ls [.long v]) :=
  W.lret hx hb hr (fun t ht _ => ⟨v, rfl, h, ht⟩) (fun _ q => absurd q List.not_mem_nil) hdg hlocks
theorem xr_q (hx : p.tables.exec = Jvm.exec) (hb : c.code = cc) {nm : String} (hr : meth.sig.returnType = some (.object nm)) (hlocks : meth.locks = false) {v : Value} {r : Option Nat} (h : v = va_rf r) (hdg : decode cc pc = .ok (.areturn, 1)) : W p l e R s m args below meth c s.heap [] 0 0 (MQ below (va_Sq (fun z => z = r)) args s 0 0 (fun _ => False)) (F0 m pc ls [v]) :=
  W.aret hx hb hr (Or.inl ⟨_, rfl⟩) (by rw [h]; exact va_rf_or r) (fun t ht _ => ⟨r, by rw [h], rfl, ht⟩) (fun _ q => absurd q List.not_mem_nil) hdg hlocks
/-! ends of methods that change cells -/
theorem xe_i (hx : p.tables.exec = Jvm.exec) (hb : c.code = cc) (hr : meth.sig.returnType = some .int) (hlocks : meth.locks = false) {sz : Nat} {post : Int32 → (Nat → va_E) → Prop} (hP : va_P D vwCl (xw n ad en) H) (hS : va_S (xA n ad sz) s.heap H locs) {v : Int32} (hp : post v en) (hdg : decode cc pc = .ok (.ireturn, 1)) : W p l e R s m args below meth c H locs 0 0 (MQ below (va_Qi post (xE D n ad) (xA n ad sz)) args s 0 0 (xA n ad sz)) (F0 m pc ls [.int v]) :=
  W.iret hx hb hr (fun t ht _ => ⟨⟨v, en, rfl, hp, by show va_P D vwCl (xw n ad en) t.heap; rw [ht]; exact hP⟩, hS.F ht⟩) hS.2.2 hdg hlocks
theorem xe_l (hx : p.tables.exec = Jvm.exec) (hb : c.code = cc) (hr : meth.sig.returnType = some .long) (hlocks : meth.locks = false) {sz : Nat} {post : Int64 → (Nat → va_E) → Prop} (hP : va_P D vwCl (xw n ad en) H) (hS : va_S (xA n ad sz) s.heap H locs) {v : Int64} (hp : post v en) (hdg : decode cc pc = .ok (.lreturn, 1)) : W p l e R s m args below meth c H locs 0 0 (MQ below (va_Ql post (xE D n ad) (xA n ad sz)) args s 0 0 (xA n ad sz)) (F0 m pc ls [.long v]) :=
  W.lret hx hb hr (fun t ht _ => ⟨⟨v, en, rfl, hp, by show va_P D vwCl (xw n ad en) t.heap; rw [ht]; exact hP⟩, hS.F ht⟩) hS.2.2 hdg hlocks
theorem xe_v (hx : p.tables.exec = Jvm.exec) (hb : c.code = cc) (hr : meth.sig.returnType = none) (hlocks : meth.locks = false) {sz : Nat} {post : (Nat → va_E) → Prop} (hP : va_P D vwCl (xw n ad en) H) (hS : va_S (xA n ad sz) s.heap H locs) (hp : post en) (hdg : decode cc pc = .ok (.return_, 1)) : W p l e R s m args below meth c H locs 0 0 (MQ below (va_Qv post (xE D n ad) (xA n ad sz)) args s 0 0 (xA n ad sz)) (F0 m pc ls []) :=
  W.vret hx hb hr (fun t ht _ => ⟨⟨en, rfl, hp, by show va_P D vwCl (xw n ad en) t.heap; rw [ht]; exact hP⟩, hS.F ht⟩) hS.2.2 hdg hlocks
theorem xe_q (hx : p.tables.exec = Jvm.exec) (hb : c.code = cc) {nm : String} (hr : meth.sig.returnType = some (.object nm)) (hlocks : meth.locks = false) {sz : Nat} {post : Option Nat → (Nat → va_E) → Prop} (hP : va_P D vwCl (xw n ad en) H) (hS : va_S (xA n ad sz) s.heap H locs) {v : Value} {r : Option Nat} (h : v = va_rf r) (hp : post r en) (hdg : decode cc pc = .ok (.areturn, 1)) : W p l e R s m args below meth c H locs 0 0 (MQ below (va_Qq post (xE D n ad) (xA n ad sz)) args s 0 0 (xA n ad sz)) (F0 m pc ls [v]) :=
  W.aret hx hb hr (Or.inl ⟨_, rfl⟩) (by rw [h]; exact va_rf_or r) (fun t ht _ => ⟨⟨r, en, by rw [h], hp, by show va_P D vwCl (xw n ad en) t.heap; rw [ht]; exact hP⟩, hS.F ht⟩) hS.2.2 hdg hlocks
end XE
/-! beginnings -/
theorem xmet {l : Launch} {y : MethodName} {cc : ByteArray} {maxL : Nat} {ret : Option FieldType} {rm : Room} {av : List Value} {B : State → Prop} {Qc : Array Value → State → Outcome → State → Prop} {mc ms : Nat} {free : Addr → Prop} (hy : plainName y.cls = true) (hn : (lg_sl av).length ≤ maxL)
    (body : ∀ (p : Program) (e : Env) (s : State) (m : MethodId) (args : Array Value) (below : List Frame) (meth : Method) (c : Code) (ls : Array Slot), p.tables.exec = Jvm.exec → c.code = cc → meth.sig.returnType = ret → c.maxLocals = maxL → s.vm.findClass y.cls = some m.cls → (∀ w ∈ xU, w.before args s = true) → meth.locks = false → meth.name = y.name → B s → lv_has ls maxL (lv_args 0 av) → W p l e rm s m args below meth c s.heap [] 0 0 (MQ below Qc args s mc ms free) (F0 m 0 ls [])) :
    Met l y (Cond.code y cc maxL ret :: xU) rm (va_Pc av B) Qc mc ms free := by
  refine Met.ofW (cc := cc) (maxL := maxL) (ret := ret) hy rfl ?_
  intro p e s m args below meth c s₁ B0 hml hv
  obtain ⟨rfl, hB⟩ := hv
  have hts := atoms_spec (ws := Cond.code y cc maxL ret :: xU) B0.pre
  rw [lg_entry_eq]
  exact body p e s m _ below meth c _ B0.exec B0.bytes B0.returns hml (findClass_of_methodNamed B0.named) (fun w h => hts w (List.mem_cons_of_mem _ h)) B0.notSynchronized (name_of_methodNamed B0.named B0.method).1 hB (lv_entry av hn)
