/-! the model's numbers -/
abbrev MO : Type := (Nat → Int) × (Nat → Int) × (Nat → Int) × (Nat → Int) × (Nat → Int) × Int × (Nat → Int) × (Nat → Int) × (Nat → Int) × (Nat → Int) × Int × (Nat → Int) × (Nat → Int) × (Nat → Int) × (Nat → Int) × (Nat → Int) × Int64
abbrev MO.built (M : MO) : Nat → Int := M.1
abbrev MO.builtMany (M : MO) : Nat → Int := M.2.1
abbrev MO.told (M : MO) : Nat → Int := M.2.2.1
abbrev MO.toldMany (M : MO) : Nat → Int := M.2.2.2.1
abbrev MO.row (M : MO) : Nat → Int := M.2.2.2.2.1
abbrev MO.rowMany (M : MO) : Int := M.2.2.2.2.2.1
abbrev MO.figures (M : MO) : Nat → Int := M.2.2.2.2.2.2.1
abbrev MO.partText (M : MO) : Nat → Int := M.2.2.2.2.2.2.2.1
abbrev MO.partFrom (M : MO) : Nat → Int := M.2.2.2.2.2.2.2.2.1
abbrev MO.partMany (M : MO) : Nat → Int := M.2.2.2.2.2.2.2.2.2.1
abbrev MO.parts (M : MO) : Int := M.2.2.2.2.2.2.2.2.2.2.1
abbrev MO.cut (M : MO) : Nat → Int := M.2.2.2.2.2.2.2.2.2.2.2.1
abbrev MO.cutMany (M : MO) : Nat → Int := M.2.2.2.2.2.2.2.2.2.2.2.2.1
abbrev MO.isCut (M : MO) : Nat → Int := M.2.2.2.2.2.2.2.2.2.2.2.2.2.1
abbrev MO.cutGives (M : MO) : Nat → Int := M.2.2.2.2.2.2.2.2.2.2.2.2.2.2.1
abbrev MO.cutAt (M : MO) : Nat → Int := M.2.2.2.2.2.2.2.2.2.2.2.2.2.2.2.1
abbrev MO.h (M : MO) : Int64 := M.2.2.2.2.2.2.2.2.2.2.2.2.2.2.2.2
abbrev mO (built0 : Nat → Int) (builtMany0 : Nat → Int) (told0 : Nat → Int) (toldMany0 : Nat → Int) (row0 : Nat → Int) (rowMany0 : Int) (figures0 : Nat → Int) (partText0 : Nat → Int) (partFrom0 : Nat → Int) (partMany0 : Nat → Int) (parts0 : Int) (cut0 : Nat → Int) (cutMany0 : Nat → Int) (isCut0 : Nat → Int) (cutGives0 : Nat → Int) (cutAt0 : Nat → Int) (h0 : Int64) : MO := (built0, builtMany0, told0, toldMany0, row0, rowMany0, figures0, partText0, partFrom0, partMany0, parts0, cut0, cutMany0, isCut0, cutGives0, cutAt0, h0)
/-- the model's cells: 53 to 67 -/
def MW (cA : Nat → ClassId) (ad : Nat → Nat) (en : Nat → va_E) (M : MO) : Prop :=
  en 53 = .inr (5, [.ref (ad 54), .ref (ad 55), .ref (ad 56), .ref (ad 57), .ref (ad 58), .int (xI M.rowMany), .ref (ad 59), .ref (ad 60), .ref (ad 61), .ref (ad 62), .int (xI M.parts), .ref (ad 63), .ref (ad 64), .ref (ad 65), .ref (ad 66), .ref (ad 67), .long M.h]) ∧
  en 54 = .inl (cA 0, 800, .inl (fun k => xI (M.built k))) ∧
  en 55 = .inl (cA 0, 4, .inl (fun k => xI (M.builtMany k))) ∧
  en 56 = .inl (cA 0, 1600, .inl (fun k => xI (M.told k))) ∧
  en 57 = .inl (cA 0, 8, .inl (fun k => xI (M.toldMany k))) ∧
  en 58 = .inl (cA 0, 220, .inl (fun k => xI (M.row k))) ∧
  en 59 = .inl (cA 0, 24, .inl (fun k => xI (M.figures k))) ∧
  en 60 = .inl (cA 0, 200, .inl (fun k => xI (M.partText k))) ∧
  en 61 = .inl (cA 0, 202, .inl (fun k => xI (M.partFrom k))) ∧
  en 62 = .inl (cA 0, 202, .inl (fun k => xI (M.partMany k))) ∧
  en 63 = .inl (cA 0, 400, .inl (fun k => xI (M.cut k))) ∧
  en 64 = .inl (cA 0, 2, .inl (fun k => xI (M.cutMany k))) ∧
  en 65 = .inl (cA 0, 512, .inl (fun k => xI (M.isCut k))) ∧
  en 66 = .inl (cA 0, 2, .inl (fun k => xI (M.cutGives k))) ∧
  en 67 = .inl (cA 0, 2, .inl (fun k => xI (M.cutAt k)))
theorem upd_xI (f : Nat → Int) (i : Nat) (v : Int) : upd (fun k => xI (f k)) i (xI v) = fun k => xI (sp_up f i v k) := by
  funext k
  show (if k = i then xI v else xI (f k)) = xI (if k = i then v else f k)
  split <;> rfl
section MW
variable {cA : Nat → ClassId} {ad : Nat → Nat} {en en' : Nat → va_E} {M : MO}
theorem MW.u_built (h : MW cA ad en M) (i : Nat) (v : Int) : MW cA ad (va_up en 54 (.inl (cA 0, 800, .inl (upd (fun k => xI (M.built k)) i (xI v))))) (mO (sp_up M.built i v) M.builtMany M.told M.toldMany M.row M.rowMany M.figures M.partText M.partFrom M.partMany M.parts M.cut M.cutMany M.isCut M.cutGives M.cutAt M.h) := ⟨(va_up_ne _ _ (by decide)).trans h.1, (va_up_self _ _ _).trans (by rw [upd_xI]), (va_up_ne _ _ (by decide)).trans h.2.2.1, (va_up_ne _ _ (by decide)).trans h.2.2.2.1, (va_up_ne _ _ (by decide)).trans h.2.2.2.2.1, (va_up_ne _ _ (by decide)).trans h.2.2.2.2.2.1, (va_up_ne _ _ (by decide)).trans h.2.2.2.2.2.2.1, (va_up_ne _ _ (by decide)).trans h.2.2.2.2.2.2.2.1, (va_up_ne _ _ (by decide)).trans h.2.2.2.2.2.2.2.2.1, (va_up_ne _ _ (by decide)).trans h.2.2.2.2.2.2.2.2.2.1, (va_up_ne _ _ (by decide)).trans h.2.2.2.2.2.2.2.2.2.2.1, (va_up_ne _ _ (by decide)).trans h.2.2.2.2.2.2.2.2.2.2.2.1, (va_up_ne _ _ (by decide)).trans h.2.2.2.2.2.2.2.2.2.2.2.2.1, (va_up_ne _ _ (by decide)).trans h.2.2.2.2.2.2.2.2.2.2.2.2.2.1, (va_up_ne _ _ (by decide)).trans h.2.2.2.2.2.2.2.2.2.2.2.2.2.2⟩
theorem MW.u_builtMany (h : MW cA ad en M) (i : Nat) (v : Int) : MW cA ad (va_up en 55 (.inl (cA 0, 4, .inl (upd (fun k => xI (M.builtMany k)) i (xI v))))) (mO M.built (sp_up M.builtMany i v) M.told M.toldMany M.row M.rowMany M.figures M.partText M.partFrom M.partMany M.parts M.cut M.cutMany M.isCut M.cutGives M.cutAt M.h) := ⟨(va_up_ne _ _ (by decide)).trans h.1, (va_up_ne _ _ (by decide)).trans h.2.1, (va_up_self _ _ _).trans (by rw [upd_xI]), (va_up_ne _ _ (by decide)).trans h.2.2.2.1, (va_up_ne _ _ (by decide)).trans h.2.2.2.2.1, (va_up_ne _ _ (by decide)).trans h.2.2.2.2.2.1, (va_up_ne _ _ (by decide)).trans h.2.2.2.2.2.2.1, (va_up_ne _ _ (by decide)).trans h.2.2.2.2.2.2.2.1, (va_up_ne _ _ (by decide)).trans h.2.2.2.2.2.2.2.2.1, (va_up_ne _ _ (by decide)).trans h.2.2.2.2.2.2.2.2.2.1, (va_up_ne _ _ (by decide)).trans h.2.2.2.2.2.2.2.2.2.2.1, (va_up_ne _ _ (by decide)).trans h.2.2.2.2.2.2.2.2.2.2.2.1, (va_up_ne _ _ (by decide)).trans h.2.2.2.2.2.2.2.2.2.2.2.2.1, (va_up_ne _ _ (by decide)).trans h.2.2.2.2.2.2.2.2.2.2.2.2.2.1, (va_up_ne _ _ (by decide)).trans h.2.2.2.2.2.2.2.2.2.2.2.2.2.2⟩
theorem MW.u_told (h : MW cA ad en M) (i : Nat) (v : Int) : MW cA ad (va_up en 56 (.inl (cA 0, 1600, .inl (upd (fun k => xI (M.told k)) i (xI v))))) (mO M.built M.builtMany (sp_up M.told i v) M.toldMany M.row M.rowMany M.figures M.partText M.partFrom M.partMany M.parts M.cut M.cutMany M.isCut M.cutGives M.cutAt M.h) := ⟨(va_up_ne _ _ (by decide)).trans h.1, (va_up_ne _ _ (by decide)).trans h.2.1, (va_up_ne _ _ (by decide)).trans h.2.2.1, (va_up_self _ _ _).trans (by rw [upd_xI]), (va_up_ne _ _ (by decide)).trans h.2.2.2.2.1, (va_up_ne _ _ (by decide)).trans h.2.2.2.2.2.1, (va_up_ne _ _ (by decide)).trans h.2.2.2.2.2.2.1, (va_up_ne _ _ (by decide)).trans h.2.2.2.2.2.2.2.1, (va_up_ne _ _ (by decide)).trans h.2.2.2.2.2.2.2.2.1, (va_up_ne _ _ (by decide)).trans h.2.2.2.2.2.2.2.2.2.1, (va_up_ne _ _ (by decide)).trans h.2.2.2.2.2.2.2.2.2.2.1, (va_up_ne _ _ (by decide)).trans h.2.2.2.2.2.2.2.2.2.2.2.1, (va_up_ne _ _ (by decide)).trans h.2.2.2.2.2.2.2.2.2.2.2.2.1, (va_up_ne _ _ (by decide)).trans h.2.2.2.2.2.2.2.2.2.2.2.2.2.1, (va_up_ne _ _ (by decide)).trans h.2.2.2.2.2.2.2.2.2.2.2.2.2.2⟩
theorem MW.u_toldMany (h : MW cA ad en M) (i : Nat) (v : Int) : MW cA ad (va_up en 57 (.inl (cA 0, 8, .inl (upd (fun k => xI (M.toldMany k)) i (xI v))))) (mO M.built M.builtMany M.told (sp_up M.toldMany i v) M.row M.rowMany M.figures M.partText M.partFrom M.partMany M.parts M.cut M.cutMany M.isCut M.cutGives M.cutAt M.h) := ⟨(va_up_ne _ _ (by decide)).trans h.1, (va_up_ne _ _ (by decide)).trans h.2.1, (va_up_ne _ _ (by decide)).trans h.2.2.1, (va_up_ne _ _ (by decide)).trans h.2.2.2.1, (va_up_self _ _ _).trans (by rw [upd_xI]), (va_up_ne _ _ (by decide)).trans h.2.2.2.2.2.1, (va_up_ne _ _ (by decide)).trans h.2.2.2.2.2.2.1, (va_up_ne _ _ (by decide)).trans h.2.2.2.2.2.2.2.1, (va_up_ne _ _ (by decide)).trans h.2.2.2.2.2.2.2.2.1, (va_up_ne _ _ (by decide)).trans h.2.2.2.2.2.2.2.2.2.1, (va_up_ne _ _ (by decide)).trans h.2.2.2.2.2.2.2.2.2.2.1, (va_up_ne _ _ (by decide)).trans h.2.2.2.2.2.2.2.2.2.2.2.1, (va_up_ne _ _ (by decide)).trans h.2.2.2.2.2.2.2.2.2.2.2.2.1, (va_up_ne _ _ (by decide)).trans h.2.2.2.2.2.2.2.2.2.2.2.2.2.1, (va_up_ne _ _ (by decide)).trans h.2.2.2.2.2.2.2.2.2.2.2.2.2.2⟩
theorem MW.u_row (h : MW cA ad en M) (i : Nat) (v : Int) : MW cA ad (va_up en 58 (.inl (cA 0, 220, .inl (upd (fun k => xI (M.row k)) i (xI v))))) (mO M.built M.builtMany M.told M.toldMany (sp_up M.row i v) M.rowMany M.figures M.partText M.partFrom M.partMany M.parts M.cut M.cutMany M.isCut M.cutGives M.cutAt M.h) := ⟨(va_up_ne _ _ (by decide)).trans h.1, (va_up_ne _ _ (by decide)).trans h.2.1, (va_up_ne _ _ (by decide)).trans h.2.2.1, (va_up_ne _ _ (by decide)).trans h.2.2.2.1, (va_up_ne _ _ (by decide)).trans h.2.2.2.2.1, (va_up_self _ _ _).trans (by rw [upd_xI]), (va_up_ne _ _ (by decide)).trans h.2.2.2.2.2.2.1, (va_up_ne _ _ (by decide)).trans h.2.2.2.2.2.2.2.1, (va_up_ne _ _ (by decide)).trans h.2.2.2.2.2.2.2.2.1, (va_up_ne _ _ (by decide)).trans h.2.2.2.2.2.2.2.2.2.1, (va_up_ne _ _ (by decide)).trans h.2.2.2.2.2.2.2.2.2.2.1, (va_up_ne _ _ (by decide)).trans h.2.2.2.2.2.2.2.2.2.2.2.1, (va_up_ne _ _ (by decide)).trans h.2.2.2.2.2.2.2.2.2.2.2.2.1, (va_up_ne _ _ (by decide)).trans h.2.2.2.2.2.2.2.2.2.2.2.2.2.1, (va_up_ne _ _ (by decide)).trans h.2.2.2.2.2.2.2.2.2.2.2.2.2.2⟩
theorem MW.u_figures (h : MW cA ad en M) (i : Nat) (v : Int) : MW cA ad (va_up en 59 (.inl (cA 0, 24, .inl (upd (fun k => xI (M.figures k)) i (xI v))))) (mO M.built M.builtMany M.told M.toldMany M.row M.rowMany (sp_up M.figures i v) M.partText M.partFrom M.partMany M.parts M.cut M.cutMany M.isCut M.cutGives M.cutAt M.h) := ⟨(va_up_ne _ _ (by decide)).trans h.1, (va_up_ne _ _ (by decide)).trans h.2.1, (va_up_ne _ _ (by decide)).trans h.2.2.1, (va_up_ne _ _ (by decide)).trans h.2.2.2.1, (va_up_ne _ _ (by decide)).trans h.2.2.2.2.1, (va_up_ne _ _ (by decide)).trans h.2.2.2.2.2.1, (va_up_self _ _ _).trans (by rw [upd_xI]), (va_up_ne _ _ (by decide)).trans h.2.2.2.2.2.2.2.1, (va_up_ne _ _ (by decide)).trans h.2.2.2.2.2.2.2.2.1, (va_up_ne _ _ (by decide)).trans h.2.2.2.2.2.2.2.2.2.1, (va_up_ne _ _ (by decide)).trans h.2.2.2.2.2.2.2.2.2.2.1, (va_up_ne _ _ (by decide)).trans h.2.2.2.2.2.2.2.2.2.2.2.1, (va_up_ne _ _ (by decide)).trans h.2.2.2.2.2.2.2.2.2.2.2.2.1, (va_up_ne _ _ (by decide)).trans h.2.2.2.2.2.2.2.2.2.2.2.2.2.1, (va_up_ne _ _ (by decide)).trans h.2.2.2.2.2.2.2.2.2.2.2.2.2.2⟩
theorem MW.u_partText (h : MW cA ad en M) (i : Nat) (v : Int) : MW cA ad (va_up en 60 (.inl (cA 0, 200, .inl (upd (fun k => xI (M.partText k)) i (xI v))))) (mO M.built M.builtMany M.told M.toldMany M.row M.rowMany M.figures (sp_up M.partText i v) M.partFrom M.partMany M.parts M.cut M.cutMany M.isCut M.cutGives M.cutAt M.h) := ⟨(va_up_ne _ _ (by decide)).trans h.1, (va_up_ne _ _ (by decide)).trans h.2.1, (va_up_ne _ _ (by decide)).trans h.2.2.1, (va_up_ne _ _ (by decide)).trans h.2.2.2.1, (va_up_ne _ _ (by decide)).trans h.2.2.2.2.1, (va_up_ne _ _ (by decide)).trans h.2.2.2.2.2.1, (va_up_ne _ _ (by decide)).trans h.2.2.2.2.2.2.1, (va_up_self _ _ _).trans (by rw [upd_xI]), (va_up_ne _ _ (by decide)).trans h.2.2.2.2.2.2.2.2.1, (va_up_ne _ _ (by decide)).trans h.2.2.2.2.2.2.2.2.2.1, (va_up_ne _ _ (by decide)).trans h.2.2.2.2.2.2.2.2.2.2.1, (va_up_ne _ _ (by decide)).trans h.2.2.2.2.2.2.2.2.2.2.2.1, (va_up_ne _ _ (by decide)).trans h.2.2.2.2.2.2.2.2.2.2.2.2.1, (va_up_ne _ _ (by decide)).trans h.2.2.2.2.2.2.2.2.2.2.2.2.2.1, (va_up_ne _ _ (by decide)).trans h.2.2.2.2.2.2.2.2.2.2.2.2.2.2⟩
theorem MW.u_partFrom (h : MW cA ad en M) (i : Nat) (v : Int) : MW cA ad (va_up en 61 (.inl (cA 0, 202, .inl (upd (fun k => xI (M.partFrom k)) i (xI v))))) (mO M.built M.builtMany M.told M.toldMany M.row M.rowMany M.figures M.partText (sp_up M.partFrom i v) M.partMany M.parts M.cut M.cutMany M.isCut M.cutGives M.cutAt M.h) := ⟨(va_up_ne _ _ (by decide)).trans h.1, (va_up_ne _ _ (by decide)).trans h.2.1, (va_up_ne _ _ (by decide)).trans h.2.2.1, (va_up_ne _ _ (by decide)).trans h.2.2.2.1, (va_up_ne _ _ (by decide)).trans h.2.2.2.2.1, (va_up_ne _ _ (by decide)).trans h.2.2.2.2.2.1, (va_up_ne _ _ (by decide)).trans h.2.2.2.2.2.2.1, (va_up_ne _ _ (by decide)).trans h.2.2.2.2.2.2.2.1, (va_up_self _ _ _).trans (by rw [upd_xI]), (va_up_ne _ _ (by decide)).trans h.2.2.2.2.2.2.2.2.2.1, (va_up_ne _ _ (by decide)).trans h.2.2.2.2.2.2.2.2.2.2.1, (va_up_ne _ _ (by decide)).trans h.2.2.2.2.2.2.2.2.2.2.2.1, (va_up_ne _ _ (by decide)).trans h.2.2.2.2.2.2.2.2.2.2.2.2.1, (va_up_ne _ _ (by decide)).trans h.2.2.2.2.2.2.2.2.2.2.2.2.2.1, (va_up_ne _ _ (by decide)).trans h.2.2.2.2.2.2.2.2.2.2.2.2.2.2⟩
theorem MW.u_partMany (h : MW cA ad en M) (i : Nat) (v : Int) : MW cA ad (va_up en 62 (.inl (cA 0, 202, .inl (upd (fun k => xI (M.partMany k)) i (xI v))))) (mO M.built M.builtMany M.told M.toldMany M.row M.rowMany M.figures M.partText M.partFrom (sp_up M.partMany i v) M.parts M.cut M.cutMany M.isCut M.cutGives M.cutAt M.h) := ⟨(va_up_ne _ _ (by decide)).trans h.1, (va_up_ne _ _ (by decide)).trans h.2.1, (va_up_ne _ _ (by decide)).trans h.2.2.1, (va_up_ne _ _ (by decide)).trans h.2.2.2.1, (va_up_ne _ _ (by decide)).trans h.2.2.2.2.1, (va_up_ne _ _ (by decide)).trans h.2.2.2.2.2.1, (va_up_ne _ _ (by decide)).trans h.2.2.2.2.2.2.1, (va_up_ne _ _ (by decide)).trans h.2.2.2.2.2.2.2.1, (va_up_ne _ _ (by decide)).trans h.2.2.2.2.2.2.2.2.1, (va_up_self _ _ _).trans (by rw [upd_xI]), (va_up_ne _ _ (by decide)).trans h.2.2.2.2.2.2.2.2.2.2.1, (va_up_ne _ _ (by decide)).trans h.2.2.2.2.2.2.2.2.2.2.2.1, (va_up_ne _ _ (by decide)).trans h.2.2.2.2.2.2.2.2.2.2.2.2.1, (va_up_ne _ _ (by decide)).trans h.2.2.2.2.2.2.2.2.2.2.2.2.2.1, (va_up_ne _ _ (by decide)).trans h.2.2.2.2.2.2.2.2.2.2.2.2.2.2⟩
theorem MW.u_cut (h : MW cA ad en M) (i : Nat) (v : Int) : MW cA ad (va_up en 63 (.inl (cA 0, 400, .inl (upd (fun k => xI (M.cut k)) i (xI v))))) (mO M.built M.builtMany M.told M.toldMany M.row M.rowMany M.figures M.partText M.partFrom M.partMany M.parts (sp_up M.cut i v) M.cutMany M.isCut M.cutGives M.cutAt M.h) := ⟨(va_up_ne _ _ (by decide)).trans h.1, (va_up_ne _ _ (by decide)).trans h.2.1, (va_up_ne _ _ (by decide)).trans h.2.2.1, (va_up_ne _ _ (by decide)).trans h.2.2.2.1, (va_up_ne _ _ (by decide)).trans h.2.2.2.2.1, (va_up_ne _ _ (by decide)).trans h.2.2.2.2.2.1, (va_up_ne _ _ (by decide)).trans h.2.2.2.2.2.2.1, (va_up_ne _ _ (by decide)).trans h.2.2.2.2.2.2.2.1, (va_up_ne _ _ (by decide)).trans h.2.2.2.2.2.2.2.2.1, (va_up_ne _ _ (by decide)).trans h.2.2.2.2.2.2.2.2.2.1, (va_up_self _ _ _).trans (by rw [upd_xI]), (va_up_ne _ _ (by decide)).trans h.2.2.2.2.2.2.2.2.2.2.2.1, (va_up_ne _ _ (by decide)).trans h.2.2.2.2.2.2.2.2.2.2.2.2.1, (va_up_ne _ _ (by decide)).trans h.2.2.2.2.2.2.2.2.2.2.2.2.2.1, (va_up_ne _ _ (by decide)).trans h.2.2.2.2.2.2.2.2.2.2.2.2.2.2⟩
theorem MW.u_cutMany (h : MW cA ad en M) (i : Nat) (v : Int) : MW cA ad (va_up en 64 (.inl (cA 0, 2, .inl (upd (fun k => xI (M.cutMany k)) i (xI v))))) (mO M.built M.builtMany M.told M.toldMany M.row M.rowMany M.figures M.partText M.partFrom M.partMany M.parts M.cut (sp_up M.cutMany i v) M.isCut M.cutGives M.cutAt M.h) := ⟨(va_up_ne _ _ (by decide)).trans h.1, (va_up_ne _ _ (by decide)).trans h.2.1, (va_up_ne _ _ (by decide)).trans h.2.2.1, (va_up_ne _ _ (by decide)).trans h.2.2.2.1, (va_up_ne _ _ (by decide)).trans h.2.2.2.2.1, (va_up_ne _ _ (by decide)).trans h.2.2.2.2.2.1, (va_up_ne _ _ (by decide)).trans h.2.2.2.2.2.2.1, (va_up_ne _ _ (by decide)).trans h.2.2.2.2.2.2.2.1, (va_up_ne _ _ (by decide)).trans h.2.2.2.2.2.2.2.2.1, (va_up_ne _ _ (by decide)).trans h.2.2.2.2.2.2.2.2.2.1, (va_up_ne _ _ (by decide)).trans h.2.2.2.2.2.2.2.2.2.2.1, (va_up_self _ _ _).trans (by rw [upd_xI]), (va_up_ne _ _ (by decide)).trans h.2.2.2.2.2.2.2.2.2.2.2.2.1, (va_up_ne _ _ (by decide)).trans h.2.2.2.2.2.2.2.2.2.2.2.2.2.1, (va_up_ne _ _ (by decide)).trans h.2.2.2.2.2.2.2.2.2.2.2.2.2.2⟩
theorem MW.u_isCut (h : MW cA ad en M) (i : Nat) (v : Int) : MW cA ad (va_up en 65 (.inl (cA 0, 512, .inl (upd (fun k => xI (M.isCut k)) i (xI v))))) (mO M.built M.builtMany M.told M.toldMany M.row M.rowMany M.figures M.partText M.partFrom M.partMany M.parts M.cut M.cutMany (sp_up M.isCut i v) M.cutGives M.cutAt M.h) := ⟨(va_up_ne _ _ (by decide)).trans h.1, (va_up_ne _ _ (by decide)).trans h.2.1, (va_up_ne _ _ (by decide)).trans h.2.2.1, (va_up_ne _ _ (by decide)).trans h.2.2.2.1, (va_up_ne _ _ (by decide)).trans h.2.2.2.2.1, (va_up_ne _ _ (by decide)).trans h.2.2.2.2.2.1, (va_up_ne _ _ (by decide)).trans h.2.2.2.2.2.2.1, (va_up_ne _ _ (by decide)).trans h.2.2.2.2.2.2.2.1, (va_up_ne _ _ (by decide)).trans h.2.2.2.2.2.2.2.2.1, (va_up_ne _ _ (by decide)).trans h.2.2.2.2.2.2.2.2.2.1, (va_up_ne _ _ (by decide)).trans h.2.2.2.2.2.2.2.2.2.2.1, (va_up_ne _ _ (by decide)).trans h.2.2.2.2.2.2.2.2.2.2.2.1, (va_up_self _ _ _).trans (by rw [upd_xI]), (va_up_ne _ _ (by decide)).trans h.2.2.2.2.2.2.2.2.2.2.2.2.2.1, (va_up_ne _ _ (by decide)).trans h.2.2.2.2.2.2.2.2.2.2.2.2.2.2⟩
theorem MW.u_cutGives (h : MW cA ad en M) (i : Nat) (v : Int) : MW cA ad (va_up en 66 (.inl (cA 0, 2, .inl (upd (fun k => xI (M.cutGives k)) i (xI v))))) (mO M.built M.builtMany M.told M.toldMany M.row M.rowMany M.figures M.partText M.partFrom M.partMany M.parts M.cut M.cutMany M.isCut (sp_up M.cutGives i v) M.cutAt M.h) := ⟨(va_up_ne _ _ (by decide)).trans h.1, (va_up_ne _ _ (by decide)).trans h.2.1, (va_up_ne _ _ (by decide)).trans h.2.2.1, (va_up_ne _ _ (by decide)).trans h.2.2.2.1, (va_up_ne _ _ (by decide)).trans h.2.2.2.2.1, (va_up_ne _ _ (by decide)).trans h.2.2.2.2.2.1, (va_up_ne _ _ (by decide)).trans h.2.2.2.2.2.2.1, (va_up_ne _ _ (by decide)).trans h.2.2.2.2.2.2.2.1, (va_up_ne _ _ (by decide)).trans h.2.2.2.2.2.2.2.2.1, (va_up_ne _ _ (by decide)).trans h.2.2.2.2.2.2.2.2.2.1, (va_up_ne _ _ (by decide)).trans h.2.2.2.2.2.2.2.2.2.2.1, (va_up_ne _ _ (by decide)).trans h.2.2.2.2.2.2.2.2.2.2.2.1, (va_up_ne _ _ (by decide)).trans h.2.2.2.2.2.2.2.2.2.2.2.2.1, (va_up_self _ _ _).trans (by rw [upd_xI]), (va_up_ne _ _ (by decide)).trans h.2.2.2.2.2.2.2.2.2.2.2.2.2.2⟩
theorem MW.u_cutAt (h : MW cA ad en M) (i : Nat) (v : Int) : MW cA ad (va_up en 67 (.inl (cA 0, 2, .inl (upd (fun k => xI (M.cutAt k)) i (xI v))))) (mO M.built M.builtMany M.told M.toldMany M.row M.rowMany M.figures M.partText M.partFrom M.partMany M.parts M.cut M.cutMany M.isCut M.cutGives (sp_up M.cutAt i v) M.h) := ⟨(va_up_ne _ _ (by decide)).trans h.1, (va_up_ne _ _ (by decide)).trans h.2.1, (va_up_ne _ _ (by decide)).trans h.2.2.1, (va_up_ne _ _ (by decide)).trans h.2.2.2.1, (va_up_ne _ _ (by decide)).trans h.2.2.2.2.1, (va_up_ne _ _ (by decide)).trans h.2.2.2.2.2.1, (va_up_ne _ _ (by decide)).trans h.2.2.2.2.2.2.1, (va_up_ne _ _ (by decide)).trans h.2.2.2.2.2.2.2.1, (va_up_ne _ _ (by decide)).trans h.2.2.2.2.2.2.2.2.1, (va_up_ne _ _ (by decide)).trans h.2.2.2.2.2.2.2.2.2.1, (va_up_ne _ _ (by decide)).trans h.2.2.2.2.2.2.2.2.2.2.1, (va_up_ne _ _ (by decide)).trans h.2.2.2.2.2.2.2.2.2.2.2.1, (va_up_ne _ _ (by decide)).trans h.2.2.2.2.2.2.2.2.2.2.2.2.1, (va_up_ne _ _ (by decide)).trans h.2.2.2.2.2.2.2.2.2.2.2.2.2.1, (va_up_self _ _ _).trans (by rw [upd_xI])⟩
theorem MW.s_rowMany (h : MW cA ad en M) (z : Int) : MW cA ad (va_up en 53 (.inr (5, [.ref (ad 54), .ref (ad 55), .ref (ad 56), .ref (ad 57), .ref (ad 58), .int (xI z), .ref (ad 59), .ref (ad 60), .ref (ad 61), .ref (ad 62), .int (xI M.parts), .ref (ad 63), .ref (ad 64), .ref (ad 65), .ref (ad 66), .ref (ad 67), .long M.h]))) (mO M.built M.builtMany M.told M.toldMany M.row z M.figures M.partText M.partFrom M.partMany M.parts M.cut M.cutMany M.isCut M.cutGives M.cutAt M.h) := ⟨va_up_self _ _ _, (va_up_ne _ _ (by decide)).trans h.2.1, (va_up_ne _ _ (by decide)).trans h.2.2.1, (va_up_ne _ _ (by decide)).trans h.2.2.2.1, (va_up_ne _ _ (by decide)).trans h.2.2.2.2.1, (va_up_ne _ _ (by decide)).trans h.2.2.2.2.2.1, (va_up_ne _ _ (by decide)).trans h.2.2.2.2.2.2.1, (va_up_ne _ _ (by decide)).trans h.2.2.2.2.2.2.2.1, (va_up_ne _ _ (by decide)).trans h.2.2.2.2.2.2.2.2.1, (va_up_ne _ _ (by decide)).trans h.2.2.2.2.2.2.2.2.2.1, (va_up_ne _ _ (by decide)).trans h.2.2.2.2.2.2.2.2.2.2.1, (va_up_ne _ _ (by decide)).trans h.2.2.2.2.2.2.2.2.2.2.2.1, (va_up_ne _ _ (by decide)).trans h.2.2.2.2.2.2.2.2.2.2.2.2.1, (va_up_ne _ _ (by decide)).trans h.2.2.2.2.2.2.2.2.2.2.2.2.2.1, (va_up_ne _ _ (by decide)).trans h.2.2.2.2.2.2.2.2.2.2.2.2.2.2⟩
theorem MW.s_parts (h : MW cA ad en M) (z : Int) : MW cA ad (va_up en 53 (.inr (5, [.ref (ad 54), .ref (ad 55), .ref (ad 56), .ref (ad 57), .ref (ad 58), .int (xI M.rowMany), .ref (ad 59), .ref (ad 60), .ref (ad 61), .ref (ad 62), .int (xI z), .ref (ad 63), .ref (ad 64), .ref (ad 65), .ref (ad 66), .ref (ad 67), .long M.h]))) (mO M.built M.builtMany M.told M.toldMany M.row M.rowMany M.figures M.partText M.partFrom M.partMany z M.cut M.cutMany M.isCut M.cutGives M.cutAt M.h) := ⟨va_up_self _ _ _, (va_up_ne _ _ (by decide)).trans h.2.1, (va_up_ne _ _ (by decide)).trans h.2.2.1, (va_up_ne _ _ (by decide)).trans h.2.2.2.1, (va_up_ne _ _ (by decide)).trans h.2.2.2.2.1, (va_up_ne _ _ (by decide)).trans h.2.2.2.2.2.1, (va_up_ne _ _ (by decide)).trans h.2.2.2.2.2.2.1, (va_up_ne _ _ (by decide)).trans h.2.2.2.2.2.2.2.1, (va_up_ne _ _ (by decide)).trans h.2.2.2.2.2.2.2.2.1, (va_up_ne _ _ (by decide)).trans h.2.2.2.2.2.2.2.2.2.1, (va_up_ne _ _ (by decide)).trans h.2.2.2.2.2.2.2.2.2.2.1, (va_up_ne _ _ (by decide)).trans h.2.2.2.2.2.2.2.2.2.2.2.1, (va_up_ne _ _ (by decide)).trans h.2.2.2.2.2.2.2.2.2.2.2.2.1, (va_up_ne _ _ (by decide)).trans h.2.2.2.2.2.2.2.2.2.2.2.2.2.1, (va_up_ne _ _ (by decide)).trans h.2.2.2.2.2.2.2.2.2.2.2.2.2.2⟩
theorem MW.s_h (h : MW cA ad en M) (z : Int64) : MW cA ad (va_up en 53 (.inr (5, [.ref (ad 54), .ref (ad 55), .ref (ad 56), .ref (ad 57), .ref (ad 58), .int (xI M.rowMany), .ref (ad 59), .ref (ad 60), .ref (ad 61), .ref (ad 62), .int (xI M.parts), .ref (ad 63), .ref (ad 64), .ref (ad 65), .ref (ad 66), .ref (ad 67), .long z]))) (mO M.built M.builtMany M.told M.toldMany M.row M.rowMany M.figures M.partText M.partFrom M.partMany M.parts M.cut M.cutMany M.isCut M.cutGives M.cutAt z) := ⟨va_up_self _ _ _, (va_up_ne _ _ (by decide)).trans h.2.1, (va_up_ne _ _ (by decide)).trans h.2.2.1, (va_up_ne _ _ (by decide)).trans h.2.2.2.1, (va_up_ne _ _ (by decide)).trans h.2.2.2.2.1, (va_up_ne _ _ (by decide)).trans h.2.2.2.2.2.1, (va_up_ne _ _ (by decide)).trans h.2.2.2.2.2.2.1, (va_up_ne _ _ (by decide)).trans h.2.2.2.2.2.2.2.1, (va_up_ne _ _ (by decide)).trans h.2.2.2.2.2.2.2.2.1, (va_up_ne _ _ (by decide)).trans h.2.2.2.2.2.2.2.2.2.1, (va_up_ne _ _ (by decide)).trans h.2.2.2.2.2.2.2.2.2.2.1, (va_up_ne _ _ (by decide)).trans h.2.2.2.2.2.2.2.2.2.2.2.1, (va_up_ne _ _ (by decide)).trans h.2.2.2.2.2.2.2.2.2.2.2.2.1, (va_up_ne _ _ (by decide)).trans h.2.2.2.2.2.2.2.2.2.2.2.2.2.1, (va_up_ne _ _ (by decide)).trans h.2.2.2.2.2.2.2.2.2.2.2.2.2.2⟩
theorem MW.ko (h : MW cA ad en M) {a b : Nat} (ho : xO a b en en') (hb : b ≤ 53) : MW cA ad en' M := ⟨(ho _ (by omega)).trans h.1, (ho _ (by omega)).trans h.2.1, (ho _ (by omega)).trans h.2.2.1, (ho _ (by omega)).trans h.2.2.2.1, (ho _ (by omega)).trans h.2.2.2.2.1, (ho _ (by omega)).trans h.2.2.2.2.2.1, (ho _ (by omega)).trans h.2.2.2.2.2.2.1, (ho _ (by omega)).trans h.2.2.2.2.2.2.2.1, (ho _ (by omega)).trans h.2.2.2.2.2.2.2.2.1, (ho _ (by omega)).trans h.2.2.2.2.2.2.2.2.2.1, (ho _ (by omega)).trans h.2.2.2.2.2.2.2.2.2.2.1, (ho _ (by omega)).trans h.2.2.2.2.2.2.2.2.2.2.2.1, (ho _ (by omega)).trans h.2.2.2.2.2.2.2.2.2.2.2.2.1, (ho _ (by omega)).trans h.2.2.2.2.2.2.2.2.2.2.2.2.2.1, (ho _ (by omega)).trans h.2.2.2.2.2.2.2.2.2.2.2.2.2.2⟩
end MW
/-- what the model's numbers say of a text, of a cutter, of the state -/
def MRt (o : Option xRow) (n : Int) (f : Nat → Int) : Prop := match o with
  | none => n = -1
  | some r => n = (r.1 : Int) ∧ ∀ k : Nat, k < r.1 → f k = r.2 k
def MRc (o : Option xCut) (n : Int) (f g : Nat → Int) (gv at0 : Int) : Prop := match o with
  | none => n = -1
  | some q => n = (q.1.1 : Int) ∧ (∀ k : Nat, k < q.1.1 → f k = q.1.2 k) ∧ (∀ k : Nat, k < 256 → g k = xd (q.2.1 (k : Int))) ∧ gv = xd q.2.2.1 ∧ at0 = (q.2.2.2 : Int)
def MRp (P : xPts) (n : Int) (a c f : Nat → Int) : Prop := n = (P.1 : Int) ∧ ∀ k : Nat, k < P.1 → a k = (P.2.1 k : Int) ∧ c k = (P.2.2.1 k : Int) - (P.2.1 k : Int) ∧ ∀ i : Nat, P.2.1 k ≤ i → i < P.2.2.1 k → f i = P.2.2.2 i
def MR (S : xSt) (M : MO) : Prop := (∀ b : Nat, b < 4 → M.builtMany b = ((S.1 b).1 : Int) ∧ ∀ k : Nat, k < (S.1 b).1 → M.built (200 * b + k) = (S.1 b).2 k) ∧
  (∀ t : Nat, t < 8 → MRt (S.2.1 t) (M.toldMany t) (fun k => M.told (200 * t + k))) ∧ MRp S.2.2.1 M.parts M.partFrom M.partMany M.partText ∧
  ∀ c : Nat, c < 2 → MRc (S.2.2.2 c) (M.cutMany c) (fun k => M.cut (200 * c + k)) (fun k => M.isCut (256 * c + k)) (M.cutGives c) (M.cutAt c)
/-- a row as it may be -/
def WR (r : xRow) : Prop := r.1 ≤ 200 ∧ ∀ k : Nat, k < r.1 → 0 ≤ r.2 k ∧ r.2 k ≤ 255
/-- the state as it may be -/
def WF (S : xSt) : Prop := (∀ b : Nat, b < 4 → WR (S.1 b)) ∧ (∀ (t : Nat) (r : xRow), t < 8 → S.2.1 t = some r → WR r) ∧
  (∃ wn : Nat, WR (wn, S.2.2.1.2.2.2) ∧ ∀ k : Nat, k < S.2.2.1.1 → S.2.2.1.2.2.1 k ≤ wn) ∧ (S.2.2.1.1 ≤ 201 ∧ (∀ k : Nat, k < S.2.2.1.1 → S.2.2.1.2.1 k ≤ S.2.2.1.2.2.1 k) ∧ (0 < S.2.2.1.1 → S.2.2.1.2.1 0 = 0) ∧ ∀ k : Nat, k + 1 < S.2.2.1.1 → S.2.2.1.2.1 (k + 1) = S.2.2.1.2.2.1 k + 1) ∧
  ∀ (c : Nat) (q : xCut), c < 2 → S.2.2.2 c = some q → WR q.1 ∧ q.2.2.2 ≤ q.1.1
theorem CW.wf {cA : Nat → ClassId} {ad : Nat → Nat} {en : Nat → va_E} {S : xSt} (h : CW cA ad en S) : WF S := by
  refine ⟨fun b hb => (h.rb hb).2.2, fun t r ht hr => ?_, ?_, h.rp.2.2.2.2, fun c q hc hq => ?_⟩
  · have h1 := h.rt ht
    rw [hr] at h1
    exact h1.2.2.2
  · obtain ⟨wn, h1, h2⟩ := h.rp.2.1
    exact ⟨wn, h1.2.2, h2⟩
  · have h1 := h.rc hc
    rw [hq] at h1
    exact ⟨h1.2.1.2.2, h1.2.2.1⟩
section MR
variable {S : xSt} {M : MO}
theorem MR.builder (hR : MR S M) (hW : WF S) {b m : Nat} {f B' : Nat → Int} {z : Int} (hb : b < 4) (hz : z = (m : Int)) (h1 : ∀ k : Nat, k < m → B' (200 * b + k) = f k) (h2 : ∀ j : Nat, j < 200 * b ∨ 200 * b + 200 ≤ j → B' j = M.built j) : MR (sp_up S.1 b (m, f), S.2) (mO B' (sp_up M.builtMany b z) M.told M.toldMany M.row M.rowMany M.figures M.partText M.partFrom M.partMany M.parts M.cut M.cutMany M.isCut M.cutGives M.cutAt M.h) := by
  subst hz
  obtain ⟨r1, r2, r3, r4⟩ := hR
  refine ⟨fun c hc => ?_, r2, r3, r4⟩
  show sp_up M.builtMany b (m : Int) c = ((sp_up S.1 b (m, f) c).1 : Int) ∧ ∀ k : Nat, k < (sp_up S.1 b (m, f) c).1 → B' (200 * c + k) = (sp_up S.1 b (m, f) c).2 k
  by_cases q : c = b
  · subst q
    rw [sp_up_s, sp_up_s]
    exact ⟨rfl, h1⟩
  · rw [sp_up_n _ _ q, sp_up_n _ _ q]
    refine ⟨(r1 c hc).1, fun k hk => ?_⟩
    have h3 := (hW.1 c hc).1
    rw [h2 _ (by omega)]
    exact (r1 c hc).2 k hk
theorem MR.text (hR : MR S M) (hW : WF S) {t : Nat} {o : Option xRow} {T' : Nat → Int} {z : Int} (ht : t < 8) (h1 : MRt o z (fun k => T' (200 * t + k))) (h2 : ∀ j : Nat, j < 200 * t ∨ 200 * t + 200 ≤ j → T' j = M.told j) : MR (S.1, sp_up S.2.1 t o, S.2.2) (mO M.built M.builtMany T' (sp_up M.toldMany t z) M.row M.rowMany M.figures M.partText M.partFrom M.partMany M.parts M.cut M.cutMany M.isCut M.cutGives M.cutAt M.h) := by
  obtain ⟨r1, r2, r3, r4⟩ := hR
  refine ⟨r1, fun c hc => ?_, r3, r4⟩
  show MRt (sp_up S.2.1 t o c) (sp_up M.toldMany t z c) (fun k => T' (200 * c + k))
  by_cases q : c = t
  · subst q
    rw [sp_up_s, sp_up_s]
    exact h1
  · rw [sp_up_n _ _ q, sp_up_n _ _ q]
    have h3 := r2 c hc
    have h4 := fun r => hW.2.1 c r hc
    revert h3 h4
    rcases S.2.1 c with _ | r
    · intro h3 _; exact h3
    · intro h3 h4
      have h5 := (h4 r rfl).1
      exact ⟨h3.1, fun k hk => (h2 _ (by omega)).trans (h3.2 k hk)⟩
theorem MR.cutter (hR : MR S M) (hW : WF S) {c : Nat} {o : Option xCut} {C' G' V' A' : Nat → Int} {z gv pl : Int} (hc : c < 2) (h1 : MRc o z (fun k => C' (200 * c + k)) (fun k => G' (256 * c + k)) gv pl) (h2 : ∀ j : Nat, j < 200 * c ∨ 200 * c + 200 ≤ j → C' j = M.cut j) (h3 : ∀ j : Nat, j < 256 * c ∨ 256 * c + 256 ≤ j → G' j = M.isCut j) (h4 : V' c = gv ∧ ∀ j : Nat, j ≠ c → V' j = M.cutGives j) (h5 : A' c = pl ∧ ∀ j : Nat, j ≠ c → A' j = M.cutAt j) : MR (S.1, S.2.1, S.2.2.1, sp_up S.2.2.2 c o) (mO M.built M.builtMany M.told M.toldMany M.row M.rowMany M.figures M.partText M.partFrom M.partMany M.parts C' (sp_up M.cutMany c z) G' V' A' M.h) := by
  obtain ⟨r1, r2, r3, r4⟩ := hR
  refine ⟨r1, r2, r3, fun k hk => ?_⟩
  show MRc (sp_up S.2.2.2 c o k) (sp_up M.cutMany c z k) (fun j => C' (200 * k + j)) (fun j => G' (256 * k + j)) (V' k) (A' k)
  by_cases q : k = c
  · subst q
    rw [sp_up_s, sp_up_s, h4.1, h5.1]
    exact h1
  · rw [sp_up_n _ _ q, sp_up_n _ _ q, h4.2 k q, h5.2 k q]
    have h6 := r4 k hk
    have h7 := fun r => hW.2.2.2.2 k r hk
    revert h6 h7
    rcases S.2.2.2 k with _ | r
    · intro h6 _; exact h6
    · intro h6 h7
      have h8 := (h7 r rfl).1.1
      exact ⟨h6.1, fun j hj => (h2 _ (by omega)).trans (h6.2.1 j hj), fun j hj => (h3 _ (by omega)).trans (h6.2.2.1 j hj), h6.2.2.2⟩
theorem MR.pts (hR : MR S M) {P : xPts} {z : Int} {a c f : Nat → Int} (h : MRp P z a c f) : MR (S.1, S.2.1, P, S.2.2.2) (mO M.built M.builtMany M.told M.toldMany M.row M.rowMany M.figures f a c z M.cut M.cutMany M.isCut M.cutGives M.cutAt M.h) := ⟨hR.1, hR.2.1, h, hR.2.2.2⟩
end MR
section XTV
variable {p : Program} {l : Launch} {e : Env} {R : Room} {s : State} {m : MethodId} {args : Array Value} {below : List Frame} {meth : Method} {c : Code} {H : Heap} {locs : List Loc} {cells slots : Nat} {Q : State → Prop}
theorem x_tov {pc : Nat} {ls : Array Slot} {rest : List Value} {v w : Value} (h : v = w) (kk : W p l e R s m args below meth c H locs cells slots Q (F0 m pc ls (w :: rest))) : W p l e R s m args below meth c H locs cells slots Q (F0 m pc ls (v :: rest)) := by rw [h]; exact kk
end XTV
theorem xd_01 (p : Prop) : xd p = 0 ∨ xd p = 1 := by
  by_cases h : p
  · exact Or.inr (xd_t h)
  · exact Or.inl (xd_f h)
theorem xd_1 {p : Prop} : xd p = 1 ↔ p := ⟨fun h => Classical.byContradiction fun q => by rw [xd_f q] at h; omega, xd_t⟩
theorem xd_0 {p : Prop} : xd p = 0 ↔ ¬ p := ⟨fun h q => by rw [xd_t q] at h; omega, xd_f⟩

set_option maxRecDepth 20000 in
theorem c_X5_in (l : Launch) (z1 z2 z3 : Int) (hz1 : -9223372036854775808 ≤ z1 ∧ z1 ≤ 9223372036854775807) (hz2 : -9223372036854775808 ≤ z2 ∧ z2 ≤ 9223372036854775807) (hz3 : -9223372036854775808 ≤ z3 ∧ z3 ≤ 9223372036854775807) : Met l yX5_in (Cond.code yX5_in cX5_in 6 (some .boolean) :: xU) (xrm 0 0) (va_Pc [.long (xL z1), .long (xL z2), .long (xL z3)] (fun _ => True)) (vp_Si (fun z => z = xb (z2 ≤ z1 ∧ z1 ≤ z3))) 0 0 (fun _ => False) := by
  refine xmet (by decide) (Nat.le_of_ble_eq_true rfl) (fun p e s mm args below meth c ls hx hb hrt hml hown hts hlocks hname hB hl => ?_)
  have hl : lv_has ls 6 [(0, .long (xL z1)), (2, .long (xL z2)), (4, .long (xL z3))] := hl
  refine lv_lload_n hx hb dX5_in_0 rfl (lv_at hl 0 rfl) ?_
  refine lv_lload_n hx hb dX5_in_1 rfl (lv_at hl 1 rfl) ?_
  refine x_lcmp hx hb dX5_in_2 (by omega) ?_
  refine x_if_lt (tgt := 17) hx hb dX5_in_3 (by decide) (xcmp_r _ _) (fun c_3 => ?_) (fun c_3 => ?_)
  · have c_3 := xcmp_lt.mp c_3
    refine x_iconst hx hb dX5_in_17 ?_
    exact xr_z hx hb hrt hlocks (xb_0 (by omega)) dX5_in_18
  · have c_3 := xcmp_ge.mp c_3
    refine lv_lload_n hx hb dX5_in_6 rfl (lv_at hl 0 rfl) ?_
    refine lv_lload hx hb dX5_in_7 (lv_at hl 2 rfl) ?_
    refine x_lcmp hx hb dX5_in_9 (by omega) ?_
    refine x_if_gt (tgt := 17) hx hb dX5_in_10 (by decide) (xcmp_r _ _) (fun c_10 => ?_) (fun c_10 => ?_)
    · have c_10 := xcmp_gt.mp c_10
      refine x_iconst hx hb dX5_in_17 ?_
      exact xr_z hx hb hrt hlocks (xb_0 (by omega)) dX5_in_18
    · have c_10 := xcmp_le.mp c_10
      refine x_iconst hx hb dX5_in_13 ?_
      refine lv_goto (tgt := 18) hx hb dX5_in_14 (by decide) ?_
      exact xr_z hx hb hrt hlocks (xb_1 ⟨by omega, by omega⟩) dX5_in_18

set_option maxRecDepth 20000 in
theorem c_X5_isBuilder (l : Launch) (z1 : Int) (hz1 : -2147483648 ≤ z1 ∧ z1 ≤ 2147483647) : Met l yX5_isBuilder (Cond.code yX5_isBuilder cX5_isBuilder 1 (some .boolean) :: xU) (xrm 1 25) (va_Pc [.int (xI z1)] (fun _ => True)) (vp_Si (fun z => z = xb (0 ≤ z1 ∧ z1 < 4))) 0 0 (fun _ => False) := by
  refine xmet (by decide) (Nat.le_of_ble_eq_true rfl) (fun p e s mm args below meth c ls hx hb hrt hml hown hts hlocks hname hB hl => ?_)
  have hl : lv_has ls 1 [(0, .int (xI z1))] := hl
  refine lv_iload_n hx hb dX5_isBuilder_0 rfl (lv_at hl 0 rfl) ?_
  refine x_i2l hx hb dX5_isBuilder_1 (by omega) ?_
  refine lv_lconst (v := xL 0) hx hb dX5_isBuilder_2 (by decide +kernel) ?_
  refine x_ldc2 hx hb hown (hts _ u_ko_RX5_52) (k := 3) (by decide +kernel) dX5_isBuilder_3 ?_
  refine xt_i (As := [.long (xL z1), .long (xL 0), .long (xL 3)]) (rest := []) ⟨hx, hb, hml, hown, hts⟩ hl.1 (c_X5_in l z1 0 3 (by omega) (by omega) (by omega)) k_X5_in u_ml_RX5_54 rfl rfl (Nat.le_of_ble_eq_true rfl) ⟨Nat.le_of_ble_eq_true rfl, Nat.le_of_ble_eq_true rfl⟩ ⟨Nat.le_of_ble_eq_true rfl, Nat.le_of_ble_eq_true rfl⟩ dX5_isBuilder_6 ?_
  exact xr_z hx hb hrt hlocks (xb_iff (by omega)) dX5_isBuilder_9

set_option maxRecDepth 20000 in
theorem c_X5_isText (l : Launch) (z1 : Int) (hz1 : -2147483648 ≤ z1 ∧ z1 ≤ 2147483647) : Met l yX5_isText (Cond.code yX5_isText cX5_isText 1 (some .boolean) :: xU) (xrm 1 25) (va_Pc [.int (xI z1)] (fun _ => True)) (vp_Si (fun z => z = xb (0 ≤ z1 ∧ z1 < 8))) 0 0 (fun _ => False) := by
  refine xmet (by decide) (Nat.le_of_ble_eq_true rfl) (fun p e s mm args below meth c ls hx hb hrt hml hown hts hlocks hname hB hl => ?_)
  have hl : lv_has ls 1 [(0, .int (xI z1))] := hl
  refine lv_iload_n hx hb dX5_isText_0 rfl (lv_at hl 0 rfl) ?_
  refine x_i2l hx hb dX5_isText_1 (by omega) ?_
  refine lv_lconst (v := xL 0) hx hb dX5_isText_2 (by decide +kernel) ?_
  refine x_ldc2 hx hb hown (hts _ u_ko_RX5_58) (k := 7) (by decide +kernel) dX5_isText_3 ?_
  refine xt_i (As := [.long (xL z1), .long (xL 0), .long (xL 7)]) (rest := []) ⟨hx, hb, hml, hown, hts⟩ hl.1 (c_X5_in l z1 0 7 (by omega) (by omega) (by omega)) k_X5_in u_ml_RX5_54 rfl rfl (Nat.le_of_ble_eq_true rfl) ⟨Nat.le_of_ble_eq_true rfl, Nat.le_of_ble_eq_true rfl⟩ ⟨Nat.le_of_ble_eq_true rfl, Nat.le_of_ble_eq_true rfl⟩ dX5_isText_6 ?_
  exact xr_z hx hb hrt hlocks (xb_iff (by omega)) dX5_isText_9

set_option maxRecDepth 20000 in
theorem c_X5_isSign (l : Launch) (z1 : Int) (hz1 : -2147483648 ≤ z1 ∧ z1 ≤ 2147483647) : Met l yX5_isSign (Cond.code yX5_isSign cX5_isSign 1 (some .boolean) :: xU) (xrm 1 25) (va_Pc [.int (xI z1)] (fun _ => True)) (vp_Si (fun z => z = xb (0 ≤ z1 ∧ z1 < 256))) 0 0 (fun _ => False) := by
  refine xmet (by decide) (Nat.le_of_ble_eq_true rfl) (fun p e s mm args below meth c ls hx hb hrt hml hown hts hlocks hname hB hl => ?_)
  have hl : lv_has ls 1 [(0, .int (xI z1))] := hl
  refine lv_iload_n hx hb dX5_isSign_0 rfl (lv_at hl 0 rfl) ?_
  refine x_i2l hx hb dX5_isSign_1 (by omega) ?_
  refine lv_lconst (v := xL 0) hx hb dX5_isSign_2 (by decide +kernel) ?_
  refine x_ldc2 hx hb hown (hts _ u_ko_RX5_60) (k := 255) (by decide +kernel) dX5_isSign_3 ?_
  refine xt_i (As := [.long (xL z1), .long (xL 0), .long (xL 255)]) (rest := []) ⟨hx, hb, hml, hown, hts⟩ hl.1 (c_X5_in l z1 0 255 (by omega) (by omega) (by omega)) k_X5_in u_ml_RX5_54 rfl rfl (Nat.le_of_ble_eq_true rfl) ⟨Nat.le_of_ble_eq_true rfl, Nat.le_of_ble_eq_true rfl⟩ ⟨Nat.le_of_ble_eq_true rfl, Nat.le_of_ble_eq_true rfl⟩ dX5_isSign_6 ?_
  exact xr_z hx hb hrt hlocks (xb_iff (by omega)) dX5_isSign_9

set_option maxRecDepth 20000 in
theorem c_X5_isCutter (l : Launch) (z1 : Int) (hz1 : -2147483648 ≤ z1 ∧ z1 ≤ 2147483647) : Met l yX5_isCutter (Cond.code yX5_isCutter cX5_isCutter 1 (some .boolean) :: xU) (xrm 1 25) (va_Pc [.int (xI z1)] (fun _ => True)) (vp_Si (fun z => z = xb (0 ≤ z1 ∧ z1 < 2))) 0 0 (fun _ => False) := by
  refine xmet (by decide) (Nat.le_of_ble_eq_true rfl) (fun p e s mm args below meth c ls hx hb hrt hml hown hts hlocks hname hB hl => ?_)
  have hl : lv_has ls 1 [(0, .int (xI z1))] := hl
  refine lv_iload_n hx hb dX5_isCutter_0 rfl (lv_at hl 0 rfl) ?_
  refine x_i2l hx hb dX5_isCutter_1 (by omega) ?_
  refine lv_lconst (v := xL 0) hx hb dX5_isCutter_2 (by decide +kernel) ?_
  refine lv_lconst (v := xL 1) hx hb dX5_isCutter_3 (by decide +kernel) ?_
  refine xt_i (As := [.long (xL z1), .long (xL 0), .long (xL 1)]) (rest := []) ⟨hx, hb, hml, hown, hts⟩ hl.1 (c_X5_in l z1 0 1 (by omega) (by omega) (by omega)) k_X5_in u_ml_RX5_54 rfl rfl (Nat.le_of_ble_eq_true rfl) ⟨Nat.le_of_ble_eq_true rfl, Nat.le_of_ble_eq_true rfl⟩ ⟨Nat.le_of_ble_eq_true rfl, Nat.le_of_ble_eq_true rfl⟩ dX5_isCutter_4 ?_
  exact xr_z hx hb hrt hlocks (xb_iff (by omega)) dX5_isCutter_7
