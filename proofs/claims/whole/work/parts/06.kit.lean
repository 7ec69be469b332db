/-! numbers: an int, a long by the whole number that it stands for -/
def xI (z : Int) : Int32 := Int32.ofInt z
def xL (z : Int) : Int64 := Int64.ofInt z
theorem xI_add (a b : Int) : xI a + xI b = xI (a + b) := (Int32.ofInt_add a b).symm
theorem xI_sub (a b : Int) : xI a - xI b = xI (a - b) := (Int32.ofInt_sub a b).symm
theorem xI_mul (a b : Int) : xI a * xI b = xI (a * b) := (Int32.ofInt_mul a b).symm
theorem xI_neg (a : Int) : -xI a = xI (-a) := (Int32.ofInt_neg a).symm
theorem xI_of (x : Int32) : xI x.toInt = x := Int32.ofInt_toInt x
theorem xI_toInt {z : Int} (h : -2147483648 ≤ z ∧ z ≤ 2147483647) : (xI z).toInt = z := Int32.toInt_ofInt_of_le (by have := h.1; omega) (by have := h.2; omega)
theorem xI_rng (x : Int32) : -2147483648 ≤ x.toInt ∧ x.toInt ≤ 2147483647 := ⟨by have := Int32.le_toInt x; omega, by have := Int32.toInt_lt x; omega⟩
theorem xI_nat (n : Nat) : Int32.ofNat n = xI (n : Int) := (Int32.ofInt_eq_ofNat).symm
theorem xI_inj {a b : Int} (ha : -2147483648 ≤ a ∧ a ≤ 2147483647) (hb : -2147483648 ≤ b ∧ b ≤ 2147483647) : xI a = xI b ↔ a = b := ⟨fun h => by rw [← xI_toInt ha, ← xI_toInt hb, h], fun h => by rw [h]⟩
theorem xI_lt {a b : Int} (ha : -2147483648 ≤ a ∧ a ≤ 2147483647) (hb : -2147483648 ≤ b ∧ b ≤ 2147483647) : xI a < xI b ↔ a < b := by rw [Int32.lt_iff_toInt_lt, xI_toInt ha, xI_toInt hb]
theorem xI_le {a b : Int} (ha : -2147483648 ≤ a ∧ a ≤ 2147483647) (hb : -2147483648 ≤ b ∧ b ≤ 2147483647) : xI a ≤ xI b ↔ a ≤ b := by rw [Int32.le_iff_toInt_le, xI_toInt ha, xI_toInt hb]
theorem xI_clamp {z : Int} (h : 0 ≤ z ∧ z ≤ 2147483647) : (xI z).toNatClampNeg = z.toNat := by
  show (xI z).toInt.toNat = z.toNat
  rw [xI_toInt ⟨by omega, h.2⟩]
theorem xI_in {z : Int} {n : Nat} (h : 0 ≤ z ∧ z < n ∧ z ≤ 2147483647) : vp_in (xI z) n := by
  rw [vp_in_iff, xI_toInt ⟨by omega, h.2.2⟩]
  exact ⟨h.1, h.2.1⟩
theorem xL_add (a b : Int) : xL a + xL b = xL (a + b) := (Int64.ofInt_add a b).symm
theorem xL_mul (a b : Int) : xL a * xL b = xL (a * b) := (Int64.ofInt_mul a b).symm
theorem xL_of (x : Int64) : xL x.toInt = x := Int64.ofInt_toInt x
theorem xL_toInt {z : Int} (h : -9223372036854775808 ≤ z ∧ z ≤ 9223372036854775807) : (xL z).toInt = z := Int64.toInt_ofInt_of_le (by have := h.1; omega) (by have := h.2; omega)
theorem xL_rng (x : Int64) : -9223372036854775808 ≤ x.toInt ∧ x.toInt ≤ 9223372036854775807 := ⟨by have := Int64.le_toInt x; omega, by have := Int64.toInt_lt x; omega⟩
theorem xL_i (z : Int) : (xL z).toInt32 = xI z := Int64.toInt32_ofInt
theorem xI_l {z : Int} (h : -2147483648 ≤ z ∧ z ≤ 2147483647) : (xI z).toInt64 = xL z := by
  refine Int64.toInt_inj.mp ?_
  rw [Int32.toInt_toInt64, xI_toInt h, xL_toInt ⟨by omega, by omega⟩]
/-! a condition as the int 1 or 0 -/
noncomputable def xb (p : Prop) : Int32 := @ite Int32 p (Classical.propDecidable p) 1 0
theorem xb_t {p : Prop} (h : p) : xb p = 1 := if_pos h
theorem xb_f {p : Prop} (h : ¬ p) : xb p = 0 := if_neg h
theorem xb_1 {p : Prop} (h : p) : xI 1 = xb p := (xb_t h).symm
theorem xb_0 {p : Prop} (h : ¬ p) : xI 0 = xb p := (xb_f h).symm
theorem xb_eq0 {p : Prop} : xb p = 0 ↔ ¬ p := by
  by_cases h : p
  · rw [xb_t h]; exact ⟨fun e => absurd e (by decide), fun e => absurd h e⟩
  · rw [xb_f h]; exact ⟨fun _ => h, fun _ => rfl⟩
theorem xb_iff {p q : Prop} (h : p ↔ q) : xb p = xb q := by rw [propext h]
theorem xb_or (p : Prop) : xb p = xI 0 ∨ xb p = xI 1 := by
  by_cases h : p
  · exact Or.inr (xb_t h)
  · exact Or.inl (xb_f h)
theorem xb_nar (p : Prop) : narrow .boolean (.int (xb p)) = .int (xb p) := by
  rcases xb_or p with h | h <;> rw [h] <;> rfl
theorem xb_vp (p : Prop) : vp_nar .boolean (xb p) = xb p := by
  rcases xb_or p with h | h <;> rw [h] <;> rfl
theorem xb_fit (p : Prop) : fits .boolean (.int (xb p)) = true := by
  rcases xb_or p with h | h <;> rw [h] <;> rfl
noncomputable def xd (p : Prop) : Int := @ite Int p (Classical.propDecidable p) 1 0
theorem xd_t {p : Prop} (h : p) : xd p = 1 := if_pos h
theorem xd_f {p : Prop} (h : ¬ p) : xd p = 0 := if_neg h
/-! long compares -/
def xcmp (a b : Int) : Int := if b < a then 1 else if a = b then 0 else -1
theorem xcmp_e {a b : Int} (ha : -9223372036854775808 ≤ a ∧ a ≤ 9223372036854775807) (hb : -9223372036854775808 ≤ b ∧ b ≤ 9223372036854775807) : lg_cmp (xL a) (xL b) = xI (xcmp a b) := by
  unfold lg_cmp xcmp
  simp only [gt_iff_lt, Int64.lt_iff_toInt_lt, ← Int64.toInt_inj, xL_toInt ha, xL_toInt hb]
  by_cases h : b < a
  · rw [if_pos h, if_pos h]; rfl
  · rw [if_neg h, if_neg h]
    by_cases h2 : a = b
    · rw [if_pos h2, if_pos h2]; rfl
    · rw [if_neg h2, if_neg h2]; rfl
theorem xcmp_r (a b : Int) : -2147483648 ≤ xcmp a b ∧ xcmp a b ≤ 2147483647 := by
  unfold xcmp
  split
  · omega
  · split <;> omega
theorem xcmp_le {a b : Int} : xcmp a b ≤ 0 ↔ a ≤ b := by
  unfold xcmp
  split
  · omega
  · split <;> omega
theorem xcmp_lt {a b : Int} : xcmp a b < 0 ↔ a < b := by
  unfold xcmp
  split
  · omega
  · split <;> omega
theorem xcmp_eq {a b : Int} : xcmp a b = 0 ↔ a = b := by
  unfold xcmp
  split
  · omega
  · split <;> omega
/-! the world: cells by their numbers -/
def xw (n : Nat) (ad : Nat → Nat) (en : Nat → va_E) : va_W := (List.range n).map (fun i => (ad i, en i))
theorem xw_at {n : Nat} {ad : Nat → Nat} {en : Nat → va_E} {i : Nat} (h : i < n) : (xw n ad en)[i]? = some (ad i, en i) := by
  unfold xw
  rw [List.getElem?_map, List.getElem?_range h]
  rfl
theorem xw_ate {n : Nat} {ad : Nat → Nat} {en : Nat → va_E} {i : Nat} {e : va_E} (h : i < n) (he : en i = e) : (xw n ad en)[i]? = some (ad i, e) := by rw [xw_at h, he]
theorem xw_of {n : Nat} {ad : Nat → Nat} {en : Nat → va_E} {k : Nat} {q : Nat × va_E} (h : (xw n ad en)[k]? = some q) : k < n ∧ q = (ad k, en k) := by
  have hl : k < n := by
    have h1 := (List.getElem?_eq_some_iff.mp h).1
    unfold xw at h1
    rw [List.length_map, List.length_range] at h1
    exact h1
  exact ⟨hl, Option.some.inj (h.symm.trans (xw_at hl))⟩
theorem xw_set {n : Nat} {ad : Nat → Nat} {en : Nat → va_E} {i : Nat} (h : i < n) (e : va_E) : (xw n ad en).set i (ad i, e) = xw n ad (va_up en i e) := by
  refine List.ext_getElem? fun k => ?_
  by_cases hk : k < n
  · rw [xw_at hk]
    by_cases hki : k = i
    · subst hki
      rw [List.getElem?_set_self (by unfold xw; rw [List.length_map, List.length_range]; exact hk), va_up_self]
    · rw [List.getElem?_set_ne (Ne.symm hki), xw_at hk, va_up_ne _ _ hki]
  · rw [List.getElem?_eq_none (by rw [List.length_set]; unfold xw; rw [List.length_map, List.length_range]; omega), List.getElem?_eq_none (by unfold xw; rw [List.length_map, List.length_range]; omega)]
theorem xw_push {n : Nat} {ad : Nat → Nat} {en : Nat → va_E} {q : Nat} {e : va_E} : xw n ad en ++ [(q, e)] = xw (n + 1) (va_up ad n q) (va_up en n e) := by
  unfold xw
  rw [List.range_succ, List.map_append]
  congr 1
  · refine List.map_congr_left fun i hi => ?_
    have h := List.mem_range.mp hi
    rw [va_up_ne _ _ (by omega), va_up_ne _ _ (by omega)]
  · simp [va_up_self]
theorem xw_congr {n : Nat} {ad ad' : Nat → Nat} {en en' : Nat → va_E} (h : ∀ i, i < n → ad i = ad' i) (h2 : ∀ i, i < n → en i = en' i) : xw n ad en = xw n ad' en' := by
  unfold xw
  refine List.map_congr_left fun i hi => ?_
  have := List.mem_range.mp hi
  rw [h i this, h2 i this]
/-- the addresses are apart, and of a kind -/
def xD (A : Nat → Prop) (n : Nat) (ad : Nat → Nat) : Prop := (∀ i j : Nat, i < n → j < n → ad i = ad j → i = j) ∧ ∀ i : Nat, i < n → A (ad i)
theorem xD_to {A : Nat → Prop} {n : Nat} {ad : Nat → Nat} (h : xD A n ad) (en : Nat → va_E) : va_D A (xw n ad en) := by
  refine ⟨fun i j p q hp hq e => ?_, fun k q hk => ?_⟩
  · obtain ⟨h1, rfl⟩ := xw_of hp
    obtain ⟨h2, rfl⟩ := xw_of hq
    exact h.1 i j h1 h2 e
  · obtain ⟨h1, rfl⟩ := xw_of hk
    exact h.2 k h1
theorem xD_of {A : Nat → Prop} {n : Nat} {ad : Nat → Nat} {en : Nat → va_E} (h : va_D A (xw n ad en)) : xD A n ad := ⟨fun i j hi hj e => h.1 i j _ _ (xw_at hi) (xw_at hj) e, fun i hi => h.2 i _ (xw_at hi)⟩
theorem xD_w {A B : Nat → Prop} {n : Nat} {ad : Nat → Nat} (h : xD A n ad) (hAB : ∀ q, A q → B q) : xD B n ad := ⟨h.1, fun i hi => hAB _ (h.2 i hi)⟩
/-- which cells a method may change: the world's, and those that it makes -/
def xA (n : Nat) (ad : Nat → Nat) (sz : Nat) : Nat → Prop := fun q => (∃ i : Nat, i < n ∧ ad i = q) ∨ sz ≤ q
theorem xD_self {A : Nat → Prop} {n : Nat} {ad : Nat → Nat} (h : xD A n ad) (sz : Nat) : xD (xA n ad sz) n ad := ⟨h.1, fun i hi => Or.inl ⟨i, hi, rfl⟩⟩
/-- the arrays' classes -/
abbrev xty (cA : Nat → ClassId) : List (ClassId × FieldType) := [(cA 0, .int), (cA 1, .boolean), (cA 2, .object "RowsOfSigns$Row"), (cA 3, .object "RowsOfSigns$Text"), (cA 4, .object "RowsOfSigns$Cutter")]
/-- the links of private fields of nest mates -/
def xNest : List Cond := [.fieldLinkNest RX0 26 "RowsOfSigns$Row" "size" "I" "RowsOfSigns", .fieldLinkNest RX4 60 "RowsOfSigns$Row" "size" "I" "RowsOfSigns", .fieldLinkNest RX1 33 "RowsOfSigns$Row" "size" "I" "RowsOfSigns", .fieldLinkNest RX4 187 "RowsOfSigns$Parts" "whole" "LRowsOfSigns$Row;" "RowsOfSigns", .fieldLinkNest RX4 181 "RowsOfSigns$Parts" "count" "I" "RowsOfSigns", .fieldLinkNest RX4 105 "RowsOfSigns$Text" "row" "LRowsOfSigns$Row;" "RowsOfSigns", .fieldLinkNest RX4 101 "RowsOfSigns$Text" "missing" "Z" "RowsOfSigns", .fieldLinkNest RX4 207 "RowsOfSigns$Cutter" "missing" "Z" "RowsOfSigns"]
def xN (U : State) : Prop := ∀ w ∈ xNest, va_Nw w U
theorem xN_warm {s U : State} (hW : s.WarmedH U.vm) (h : xN s) : xN U := by
  intro w hw
  have hz := h w hw
  simp only [xNest, List.mem_cons, List.not_mem_nil, or_false] at hw
  rcases hw with rfl | rfl | rfl | rfl | rfl | rfl | rfl | rfl <;> exact va_Nw.warmF hW hz
theorem xN_same {u U : State} (hv : u.vm = U.vm) (h : xN u) : xN U := by
  intro w hw
  have hz := h w hw
  simp only [xNest, List.mem_cons, List.not_mem_nil, or_false] at hw
  rcases hw with rfl | rfl | rfl | rfl | rfl | rfl | rfl | rfl <;> exact va_Nw.same rfl hv hz
/-- what every method finds -/
def xB (D : va_G) (cA : Nat → ClassId) (n : Nat) (ad : Nat → Nat) (en : Nat → va_E) (U : State) : Prop := va_P D vwCl (xw n ad en) U.heap ∧ va_K D vwCl (xty cA) U ∧ xN U
/-- what a method that changes cells finds -/
def xM (D : va_G) (cA : Nat → ClassId) (n : Nat) (ad : Nat → Nat) (en : Nat → va_E) (sz : Nat) (U : State) : Prop := xB D cA n ad en U ∧ U.heap.size = sz ∧ xD (fun _ => True) n ad
/-- what it leaves -/
def xE (D : va_G) (n : Nat) (ad : Nat → Nat) (u : Nat → va_E) (t : State) : Prop := va_P D vwCl (xw n ad u) t.heap
theorem xB_calling {D : va_G} {cA : Nat → ClassId} {n : Nat} {ad : Nat → Nat} {en : Nat → va_E} {U : State} (g : JFrame) (mk : MethodId) (a : Array Value) (h : xB D cA n ad en U) : xB D cA n ad en (U.calling g mk a) := ⟨h.1, va_K.moved (u := U) (U := U.calling g mk a) (Vm.Alike.refl U.vm) h.2.1, xN_same (u := U) (U := U.calling g mk a) rfl h.2.2⟩
theorem xB_blind {D : va_G} {cA : Nat → ClassId} {n : Nat} {ad : Nat → Nat} {en : Nat → va_E} {av : List Value} : FrameBlind (va_Pc av (xB D cA n ad en)) := fun a _ g mk q => ⟨q.1, xB_calling g mk a q.2⟩
theorem xM_blind {D : va_G} {cA : Nat → ClassId} {n : Nat} {ad : Nat → Nat} {en : Nat → va_E} {sz : Nat} {av : List Value} : FrameBlind (va_Pc av (xM D cA n ad en sz)) := fun a _ g mk q => ⟨q.1, xB_calling g mk a q.2.1, q.2.2.1, q.2.2.2⟩
theorem xT_blind {av : List Value} : FrameBlind (va_Pc av (fun _ => True)) := fun _ _ _ _ q => ⟨q.1, trivial⟩
theorem xB_of {D : va_G} {cA : Nat → ClassId} {n : Nat} {ad : Nat → Nat} {en : Nat → va_E} {s U : State} {H : Heap} (hK : va_K D vwCl (xty cA) s) (hN : xN s) (hP : va_P D vwCl (xw n ad en) H) (hU : U.heap = H) (hW : s.WarmedH U.vm) : xB D cA n ad en U := ⟨by rw [hU]; exact hP, va_K.moved hW.alike hK, xN_warm hW hN⟩
