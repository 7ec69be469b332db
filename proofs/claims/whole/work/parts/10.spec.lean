/-! what the state is, as numbers and functions; the class's cells for it -/
abbrev xRow : Type := Nat × (Nat → Int)
abbrev xPts : Type := Nat × (Nat → Nat) × (Nat → Nat) × (Nat → Int)
abbrev xCut : Type := xRow × (Int → Prop) × Prop × Nat
abbrev xSt : Type := (Nat → xRow) × (Nat → Option xRow) × xPts × (Nat → Option xCut)
/-- cells from a up to b alone may differ -/
def xO (a b : Nat) (en en' : Nat → va_E) : Prop := ∀ k : Nat, k < a ∨ b ≤ k → en' k = en k
theorem xO.rf {a b : Nat} {en : Nat → va_E} : xO a b en en := fun _ _ => rfl
theorem xO.tr {a b : Nat} {e0 e1 e2 : Nat → va_E} (h1 : xO a b e0 e1) (h2 : xO a b e1 e2) : xO a b e0 e2 := fun k h => (h2 k h).trans (h1 k h)
theorem xO.mo {a b a' b' : Nat} {e0 e1 : Nat → va_E} (h : xO a b e0 e1) (h1 : a' ≤ a) (h2 : b ≤ b') : xO a' b' e0 e1 := fun k hk => h k (by omega)
theorem xO.up {a b i : Nat} {e0 e1 : Nat → va_E} {x : va_E} (h : xO a b e0 e1) (h1 : a ≤ i) (h2 : i < b) : xO a b e0 (va_up e1 i x) := fun k hk => by rw [va_up_ne _ _ (by omega)]; exact h k hk
/-- a row of signs: its object and its array -/
def XR (cA : Nat → ClassId) (ad : Nat → Nat) (en : Nat → va_E) (i m : Nat) (f : Nat → Int) : Prop :=
  en i = .inr (2, [.ref (ad (i + 1)), .int (xI m)]) ∧ (∃ g : Nat → Int32, en (i + 1) = .inl (cA 0, 200, .inl g) ∧ ∀ k : Nat, k < m → g k = xI (f k)) ∧ m ≤ 200 ∧ ∀ k : Nat, k < m → 0 ≤ f k ∧ f k ≤ 255
theorem XR.kp {cA : Nat → ClassId} {ad : Nat → Nat} {en en' : Nat → va_E} {i m : Nat} {f : Nat → Int} (h : XR cA ad en i m f) (h1 : en' i = en i) (h2 : en' (i + 1) = en (i + 1)) : XR cA ad en' i m f := by
  obtain ⟨a1, ⟨g, a2, a3⟩, a4, a5⟩ := h
  exact ⟨h1.trans a1, ⟨g, h2.trans a2, a3⟩, a4, a5⟩
theorem XR.ko {cA : Nat → ClassId} {ad : Nat → Nat} {en en' : Nat → va_E} {i m a b : Nat} {f : Nat → Int} (h : XR cA ad en i m f) (ho : xO a b en en') (hi : i + 1 < a ∨ b ≤ i) : XR cA ad en' i m f := h.kp (ho i (by omega)) (ho (i + 1) (by omega))
theorem XR.to {cA : Nat → ClassId} {ad : Nat → Nat} {en : Nat → va_E} {i m m' : Nat} {f f' : Nat → Int} (h : XR cA ad en i m f) (hm : m = m') (hf : ∀ k : Nat, k < m → f k = f' k) : XR cA ad en i m' f' := by
  subst hm
  obtain ⟨a1, ⟨g, a2, a3⟩, a4, a5⟩ := h
  exact ⟨a1, ⟨g, a2, fun k hk => by rw [a3 k hk, hf k hk]⟩, a4, fun k hk => by rw [← hf k hk]; exact a5 k hk⟩
/-- a place for a text -/
def XT (cA : Nat → ClassId) (ad : Nat → Nat) (en : Nat → va_E) (i : Nat) : Option xRow → Prop
  | none => en i = .inr (3, [.ref (ad (i + 1)), .int (xI 1)]) ∧ ∃ (m : Nat) (f : Nat → Int), XR cA ad en (i + 1) m f
  | some r => en i = .inr (3, [.ref (ad (i + 1)), .int (xI 0)]) ∧ XR cA ad en (i + 1) r.1 r.2
theorem XT.ko {cA : Nat → ClassId} {ad : Nat → Nat} {en en' : Nat → va_E} {i a b : Nat} {o : Option xRow} (h : XT cA ad en i o) (ho : xO a b en en') (hi : i + 2 < a ∨ b ≤ i) : XT cA ad en' i o := by
  cases o with
  | none => exact ⟨(ho i (by omega)).trans h.1, h.2.choose, h.2.choose_spec.choose, h.2.choose_spec.choose_spec.ko ho (by omega)⟩
  | some r => exact ⟨(ho i (by omega)).trans h.1, h.2.ko ho (by omega)⟩
/-- the parts -/
def XP (cA : Nat → ClassId) (ad : Nat → Nat) (en : Nat → va_E) (P : xPts) : Prop :=
  en 4 = .inr (1, [.ref (ad 5), .ref (ad 7), .ref (ad 8), .int (xI P.1)]) ∧ (∃ wn : Nat, XR cA ad en 5 wn P.2.2.2 ∧ ∀ k : Nat, k < P.1 → P.2.2.1 k ≤ wn) ∧
  (∃ g : Nat → Int32, en 7 = .inl (cA 0, 201, .inl g) ∧ ∀ k : Nat, k < P.1 → g k = xI (P.2.1 k)) ∧ (∃ g : Nat → Int32, en 8 = .inl (cA 0, 201, .inl g) ∧ ∀ k : Nat, k < P.1 → g k = xI (P.2.2.1 k)) ∧
  P.1 ≤ 201 ∧ (∀ k : Nat, k < P.1 → P.2.1 k ≤ P.2.2.1 k) ∧ (0 < P.1 → P.2.1 0 = 0) ∧ ∀ k : Nat, k + 1 < P.1 → P.2.1 (k + 1) = P.2.2.1 k + 1
theorem XP.ko {cA : Nat → ClassId} {ad : Nat → Nat} {en en' : Nat → va_E} {a b : Nat} {P : xPts} (h : XP cA ad en P) (ho : xO a b en en') (hi : 8 < a ∨ b ≤ 4) : XP cA ad en' P := by
  obtain ⟨h1, ⟨wn, h2, h3⟩, ⟨g, h4, h5⟩, ⟨g2, h6, h7⟩, h8⟩ := h
  exact ⟨(ho 4 (by omega)).trans h1, ⟨wn, h2.ko ho (by omega), h3⟩, ⟨g, (ho 7 (by omega)).trans h4, h5⟩, ⟨g2, (ho 8 (by omega)).trans h6, h7⟩, h8⟩
/-- a cutter -/
def XC (cA : Nat → ClassId) (ad : Nat → Nat) (en : Nat → va_E) (i : Nat) : Option xCut → Prop
  | none => ∃ (G : Prop) (pl : Int), en i = .inr (0, [.ref (ad (i + 1)), .ref (ad (i + 3)), .int (xb G), .int (xI 1), .int (xI pl)]) ∧ (∃ (m : Nat) (f : Nat → Int), XR cA ad en (i + 1) m f) ∧ ∃ g : Nat → Int32, en (i + 3) = .inl (cA 1, 256, .inl g)
  | some q => en i = .inr (0, [.ref (ad (i + 1)), .ref (ad (i + 3)), .int (xb q.2.2.1), .int (xI 0), .int (xI q.2.2.2)]) ∧ XR cA ad en (i + 1) q.1.1 q.1.2 ∧ q.2.2.2 ≤ q.1.1 ∧ ∃ g : Nat → Int32, en (i + 3) = .inl (cA 1, 256, .inl g) ∧ ∀ k : Nat, k < 256 → g k = xb (q.2.1 k)
theorem XC.ko {cA : Nat → ClassId} {ad : Nat → Nat} {en en' : Nat → va_E} {i a b : Nat} {o : Option xCut} (h : XC cA ad en i o) (ho : xO a b en en') (hi : i + 3 < a ∨ b ≤ i) : XC cA ad en' i o := by
  cases o with
  | none =>
    obtain ⟨G, pl, h1, ⟨m, f, h2⟩, g, h3⟩ := h
    exact ⟨G, pl, (ho i (by omega)).trans h1, ⟨m, f, h2.ko ho (by omega)⟩, g, (ho _ (by omega)).trans h3⟩
  | some q =>
    obtain ⟨h1, h2, h3, g, h4, h5⟩ := h
    exact ⟨(ho i (by omega)).trans h1, h2.ko ho (by omega), h3, g, (ho _ (by omega)).trans h4, h5⟩
def sp_four : Nat → Int := fun k => if k = 0 then 110 else if k = 1 then 117 else 108
/-- the whole object: cells 0 to 52 -/
def CW (cA : Nat → ClassId) (ad : Nat → Nat) (en : Nat → va_E) (S : xSt) : Prop :=
  en 0 = .inr (4, [.ref (ad 1), .ref (ad 2), .ref (ad 3), .ref (ad 4), .ref (ad 9), .ref (ad 11)]) ∧
  (∃ g : Nat → Option Nat, en 1 = .inl (cA 2, 4, .inr (.inr (.inr (.inr g)))) ∧ ∀ b : Nat, b < 4 → g b = some (ad (13 + 2 * b))) ∧
  (∃ g : Nat → Option Nat, en 2 = .inl (cA 3, 8, .inr (.inr (.inr (.inr g)))) ∧ ∀ t : Nat, t < 8 → g t = some (ad (21 + 3 * t))) ∧
  (∃ g : Nat → Option Nat, en 3 = .inl (cA 4, 2, .inr (.inr (.inr (.inr g)))) ∧ ∀ c : Nat, c < 2 → g c = some (ad (45 + 4 * c))) ∧
  XP cA ad en S.2.2.1 ∧ XR cA ad en 9 4 sp_four ∧ (∃ (m : Nat) (f : Nat → Int), XR cA ad en 11 m f) ∧
  (∀ b : Nat, b < 4 → XR cA ad en (13 + 2 * b) (S.1 b).1 (S.1 b).2) ∧ (∀ t : Nat, t < 8 → XT cA ad en (21 + 3 * t) (S.2.1 t)) ∧ ∀ c : Nat, c < 2 → XC cA ad en (45 + 4 * c) (S.2.2.2 c)
/-- one place of a function -/
def sp_up {α : Type} (f : Nat → α) (k : Nat) (v : α) : Nat → α := fun j => if j = k then v else f j
theorem sp_up_s {α : Type} (f : Nat → α) (k : Nat) (v : α) : sp_up f k v k = v := if_pos rfl
theorem sp_up_n {α : Type} (f : Nat → α) {k j : Nat} (v : α) (h : j ≠ k) : sp_up f k v j = f j := if_neg h
/-! changes of a part of the whole -/
section XCW
variable {cA : Nat → ClassId} {ad : Nat → Nat} {en en' : Nat → va_E} {S : xSt}
theorem CW.builder (h : CW cA ad en S) {b m : Nat} {f : Nat → Int} (hb : b < 4) (ho : xO (13 + 2 * b) (15 + 2 * b) en en') (hr : XR cA ad en' (13 + 2 * b) m f) : CW cA ad en' (sp_up S.1 b (m, f), S.2) := by
  obtain ⟨h0, ⟨g1, h1, h1'⟩, ⟨g2, h2, h2'⟩, ⟨g3, h3, h3'⟩, h4, h5, ⟨m6, f6, h6⟩, h7, h8, h9⟩ := h
  refine ⟨(ho 0 (by omega)).trans h0, ⟨g1, (ho 1 (by omega)).trans h1, h1'⟩, ⟨g2, (ho 2 (by omega)).trans h2, h2'⟩, ⟨g3, (ho 3 (by omega)).trans h3, h3'⟩, h4.ko ho (by omega), h5.ko ho (by omega), ⟨m6, f6, h6.ko ho (by omega)⟩, fun c hc => ?_, fun t ht => (h8 t ht).ko ho (by omega), fun c hc => (h9 c hc).ko ho (by omega)⟩
  by_cases e : c = b
  · subst e
    show XR cA ad en' (13 + 2 * c) (sp_up S.1 c (m, f) c).1 (sp_up S.1 c (m, f) c).2
    rw [sp_up_s]
    exact hr
  · show XR cA ad en' (13 + 2 * c) (sp_up S.1 b (m, f) c).1 (sp_up S.1 b (m, f) c).2
    rw [sp_up_n _ _ e]
    exact (h7 c hc).ko ho (by omega)
theorem CW.text (h : CW cA ad en S) {t : Nat} {o : Option xRow} (ht : t < 8) (ho : xO (21 + 3 * t) (24 + 3 * t) en en') (hr : XT cA ad en' (21 + 3 * t) o) : CW cA ad en' (S.1, sp_up S.2.1 t o, S.2.2) := by
  obtain ⟨h0, ⟨g1, h1, h1'⟩, ⟨g2, h2, h2'⟩, ⟨g3, h3, h3'⟩, h4, h5, ⟨m6, f6, h6⟩, h7, h8, h9⟩ := h
  refine ⟨(ho 0 (by omega)).trans h0, ⟨g1, (ho 1 (by omega)).trans h1, h1'⟩, ⟨g2, (ho 2 (by omega)).trans h2, h2'⟩, ⟨g3, (ho 3 (by omega)).trans h3, h3'⟩, h4.ko ho (by omega), h5.ko ho (by omega), ⟨m6, f6, h6.ko ho (by omega)⟩, fun c hc => (h7 c hc).ko ho (by omega), fun c hc => ?_, fun c hc => (h9 c hc).ko ho (by omega)⟩
  by_cases e : c = t
  · subst e
    show XT cA ad en' (21 + 3 * c) (sp_up S.2.1 c o c)
    rw [sp_up_s]
    exact hr
  · show XT cA ad en' (21 + 3 * c) (sp_up S.2.1 t o c)
    rw [sp_up_n _ _ e]
    exact (h8 c hc).ko ho (by omega)
theorem CW.cutter (h : CW cA ad en S) {t : Nat} {o : Option xCut} (ht : t < 2) (ho : xO (45 + 4 * t) (49 + 4 * t) en en') (hr : XC cA ad en' (45 + 4 * t) o) : CW cA ad en' (S.1, S.2.1, S.2.2.1, sp_up S.2.2.2 t o) := by
  obtain ⟨h0, ⟨g1, h1, h1'⟩, ⟨g2, h2, h2'⟩, ⟨g3, h3, h3'⟩, h4, h5, ⟨m6, f6, h6⟩, h7, h8, h9⟩ := h
  refine ⟨(ho 0 (by omega)).trans h0, ⟨g1, (ho 1 (by omega)).trans h1, h1'⟩, ⟨g2, (ho 2 (by omega)).trans h2, h2'⟩, ⟨g3, (ho 3 (by omega)).trans h3, h3'⟩, h4.ko ho (by omega), h5.ko ho (by omega), ⟨m6, f6, h6.ko ho (by omega)⟩, fun c hc => (h7 c hc).ko ho (by omega), fun c hc => (h8 c hc).ko ho (by omega), fun c hc => ?_⟩
  by_cases e : c = t
  · subst e
    show XC cA ad en' (45 + 4 * c) (sp_up S.2.2.2 c o c)
    rw [sp_up_s]
    exact hr
  · show XC cA ad en' (45 + 4 * c) (sp_up S.2.2.2 t o c)
    rw [sp_up_n _ _ e]
    exact (h9 c hc).ko ho (by omega)
theorem CW.pts (h : CW cA ad en S) {P : xPts} (ho : xO 4 9 en en') (hr : XP cA ad en' P) : CW cA ad en' (S.1, S.2.1, P, S.2.2.2) := by
  obtain ⟨h0, ⟨g1, h1, h1'⟩, ⟨g2, h2, h2'⟩, ⟨g3, h3, h3'⟩, h4, h5, ⟨m6, f6, h6⟩, h7, h8, h9⟩ := h
  exact ⟨(ho 0 (by omega)).trans h0, ⟨g1, (ho 1 (by omega)).trans h1, h1'⟩, ⟨g2, (ho 2 (by omega)).trans h2, h2'⟩, ⟨g3, (ho 3 (by omega)).trans h3, h3'⟩, hr, h5.ko ho (by omega), ⟨m6, f6, h6.ko ho (by omega)⟩, fun c hc => (h7 c hc).ko ho (by omega), fun c hc => (h8 c hc).ko ho (by omega), fun c hc => (h9 c hc).ko ho (by omega)⟩
theorem CW.spare (h : CW cA ad en S) {m : Nat} {f : Nat → Int} (ho : xO 11 13 en en') (hr : XR cA ad en' 11 m f) : CW cA ad en' S := by
  obtain ⟨h0, ⟨g1, h1, h1'⟩, ⟨g2, h2, h2'⟩, ⟨g3, h3, h3'⟩, h4, h5, -, h7, h8, h9⟩ := h
  exact ⟨(ho 0 (by omega)).trans h0, ⟨g1, (ho 1 (by omega)).trans h1, h1'⟩, ⟨g2, (ho 2 (by omega)).trans h2, h2'⟩, ⟨g3, (ho 3 (by omega)).trans h3, h3'⟩, h4.ko ho (by omega), h5.ko ho (by omega), ⟨m, f, hr⟩, fun c hc => (h7 c hc).ko ho (by omega), fun c hc => (h8 c hc).ko ho (by omega), fun c hc => (h9 c hc).ko ho (by omega)⟩
theorem CW.far (h : CW cA ad en S) {a b : Nat} (ho : xO a b en en') (ha : 53 ≤ a) : CW cA ad en' S := by
  obtain ⟨h0, ⟨g1, h1, h1'⟩, ⟨g2, h2, h2'⟩, ⟨g3, h3, h3'⟩, h4, h5, ⟨m6, f6, h6⟩, h7, h8, h9⟩ := h
  exact ⟨(ho 0 (by omega)).trans h0, ⟨g1, (ho 1 (by omega)).trans h1, h1'⟩, ⟨g2, (ho 2 (by omega)).trans h2, h2'⟩, ⟨g3, (ho 3 (by omega)).trans h3, h3'⟩, h4.ko ho (by omega), h5.ko ho (by omega), ⟨m6, f6, h6.ko ho (by omega)⟩, fun c hc => (h7 c hc).ko ho (by omega), fun c hc => (h8 c hc).ko ho (by omega), fun c hc => (h9 c hc).ko ho (by omega)⟩
end XCW
