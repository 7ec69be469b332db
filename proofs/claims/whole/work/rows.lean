section
-- ===== PART A: goes FIRST, ahead of the names: the tables' words, and 'selects' of the private methods out of them =====
/-- a private method of a class that the tables say can be made, by its rows of tables_1 -/
def lw_okq (q : MethodName × Nat) : Prop := (q.1.cls ≠ "java/lang/invoke/MethodHandle" ∧ q.1.cls ≠ "java/lang/invoke/VarHandle") ∧ Cond.instantiable q.1.cls q.2 ∈ tables_1 ∧ Cond.privateMethod q.1 ∈ tables_1 ∧ Cond.instanceMethod q.1 ∈ tables_1
theorem lw_p0 : lw_okq (⟨"RowsOfSigns", "builderOf", "(I)LRowsOfSigns$Row;"⟩, 6) := ⟨⟨by decide +kernel, by decide +kernel⟩, List.mem_of_getElem? (i := 11) (by decide +kernel), List.mem_of_getElem? (i := 134) (by decide +kernel), List.mem_of_getElem? (i := 135) (by decide +kernel)⟩
theorem lw_p1 : lw_okq (⟨"RowsOfSigns", "single", "(I)LRowsOfSigns$Row;"⟩, 6) := ⟨⟨by decide +kernel, by decide +kernel⟩, List.mem_of_getElem? (i := 11) (by decide +kernel), List.mem_of_getElem? (i := 141) (by decide +kernel), List.mem_of_getElem? (i := 142) (by decide +kernel)⟩
theorem lw_p2 : lw_okq (⟨"RowsOfSigns", "lowBytes", "(IJ)LRowsOfSigns$Row;"⟩, 6) := ⟨⟨by decide +kernel, by decide +kernel⟩, List.mem_of_getElem? (i := 11) (by decide +kernel), List.mem_of_getElem? (i := 168) (by decide +kernel), List.mem_of_getElem? (i := 169) (by decide +kernel)⟩
theorem lw_p3 : lw_okq (⟨"RowsOfSigns", "textOrFour", "(I)LRowsOfSigns$Row;"⟩, 6) := ⟨⟨by decide +kernel, by decide +kernel⟩, List.mem_of_getElem? (i := 11) (by decide +kernel), List.mem_of_getElem? (i := 176) (by decide +kernel), List.mem_of_getElem? (i := 177) (by decide +kernel)⟩
theorem lw_p4 : lw_okq (⟨"RowsOfSigns", "textOf", "(I)LRowsOfSigns$Text;"⟩, 6) := ⟨⟨by decide +kernel, by decide +kernel⟩, List.mem_of_getElem? (i := 11) (by decide +kernel), List.mem_of_getElem? (i := 180) (by decide +kernel), List.mem_of_getElem? (i := 181) (by decide +kernel)⟩
theorem lw_p5 : lw_okq (⟨"RowsOfSigns", "figures", "(J)LRowsOfSigns$Row;"⟩, 6) := ⟨⟨by decide +kernel, by decide +kernel⟩, List.mem_of_getElem? (i := 11) (by decide +kernel), List.mem_of_getElem? (i := 193) (by decide +kernel), List.mem_of_getElem? (i := 194) (by decide +kernel)⟩
theorem lw_p6 : lw_okq (⟨"RowsOfSigns", "nothing", "()LRowsOfSigns$Row;"⟩, 6) := ⟨⟨by decide +kernel, by decide +kernel⟩, List.mem_of_getElem? (i := 11) (by decide +kernel), List.mem_of_getElem? (i := 233) (by decide +kernel), List.mem_of_getElem? (i := 234) (by decide +kernel)⟩
theorem lw_p7 : lw_okq (⟨"RowsOfSigns$Parts", "mayPart", "(I)Z"⟩, 4) := ⟨⟨by decide +kernel, by decide +kernel⟩, List.mem_of_getElem? (i := 25) (by decide +kernel), List.mem_of_getElem? (i := 429) (by decide +kernel), List.mem_of_getElem? (i := 430) (by decide +kernel)⟩
theorem lw_p8 : lw_okq (⟨"RowsOfSigns$Parts", "addPart", "(II)V"⟩, 4) := ⟨⟨by decide +kernel, by decide +kernel⟩, List.mem_of_getElem? (i := 25) (by decide +kernel), List.mem_of_getElem? (i := 433) (by decide +kernel), List.mem_of_getElem? (i := 434) (by decide +kernel)⟩
theorem lw_p9 : lw_okq (⟨"RowsOfSigns$Parts", "dropEmptyEnd", "()V"⟩, 4) := ⟨⟨by decide +kernel, by decide +kernel⟩, List.mem_of_getElem? (i := 25) (by decide +kernel), List.mem_of_getElem? (i := 437) (by decide +kernel), List.mem_of_getElem? (i := 438) (by decide +kernel)⟩
theorem lw_p10 : lw_okq (⟨"RowsOfSigns", "cutterOf", "(I)LRowsOfSigns$Cutter;"⟩, 6) := ⟨⟨by decide +kernel, by decide +kernel⟩, List.mem_of_getElem? (i := 11) (by decide +kernel), List.mem_of_getElem? (i := 472) (by decide +kernel), List.mem_of_getElem? (i := 473) (by decide +kernel)⟩
theorem lw_p11 : lw_okq (⟨"RowsOfSigns$Cutter", "tokenStart", "(I)I"⟩, 5) := ⟨⟨by decide +kernel, by decide +kernel⟩, List.mem_of_getElem? (i := 79) (by decide +kernel), List.mem_of_getElem? (i := 490) (by decide +kernel), List.mem_of_getElem? (i := 491) (by decide +kernel)⟩
theorem lw_p12 : lw_okq (⟨"RowsOfSigns$Cutter", "separatesAt", "(I)Z"⟩, 5) := ⟨⟨by decide +kernel, by decide +kernel⟩, List.mem_of_getElem? (i := 79) (by decide +kernel), List.mem_of_getElem? (i := 494) (by decide +kernel), List.mem_of_getElem? (i := 495) (by decide +kernel)⟩
theorem lw_p13 : lw_okq (⟨"RowsOfSigns$Cutter", "tokenEnd", "(I)I"⟩, 5) := ⟨⟨by decide +kernel, by decide +kernel⟩, List.mem_of_getElem? (i := 79) (by decide +kernel), List.mem_of_getElem? (i := 498) (by decide +kernel), List.mem_of_getElem? (i := 499) (by decide +kernel)⟩
theorem lw_p14 : lw_okq (⟨"RowsOfSignsModel", "laySign", "(I)V"⟩, 17) := ⟨⟨by decide +kernel, by decide +kernel⟩, List.mem_of_getElem? (i := 540) (by decide +kernel), List.mem_of_getElem? (i := 613) (by decide +kernel), List.mem_of_getElem? (i := 614) (by decide +kernel)⟩
theorem lw_p15 : lw_okq (⟨"RowsOfSignsModel", "append", "(I)I"⟩, 17) := ⟨⟨by decide +kernel, by decide +kernel⟩, List.mem_of_getElem? (i := 540) (by decide +kernel), List.mem_of_getElem? (i := 617) (by decide +kernel), List.mem_of_getElem? (i := 618) (by decide +kernel)⟩
def lw_privs_1 : List (MethodName × Nat) := [(⟨"RowsOfSigns", "builderOf", "(I)LRowsOfSigns$Row;"⟩, 6), (⟨"RowsOfSigns", "single", "(I)LRowsOfSigns$Row;"⟩, 6), (⟨"RowsOfSigns", "lowBytes", "(IJ)LRowsOfSigns$Row;"⟩, 6), (⟨"RowsOfSigns", "textOrFour", "(I)LRowsOfSigns$Row;"⟩, 6), (⟨"RowsOfSigns", "textOf", "(I)LRowsOfSigns$Text;"⟩, 6), (⟨"RowsOfSigns", "figures", "(J)LRowsOfSigns$Row;"⟩, 6), (⟨"RowsOfSigns", "nothing", "()LRowsOfSigns$Row;"⟩, 6), (⟨"RowsOfSigns$Parts", "mayPart", "(I)Z"⟩, 4), (⟨"RowsOfSigns$Parts", "addPart", "(II)V"⟩, 4), (⟨"RowsOfSigns$Parts", "dropEmptyEnd", "()V"⟩, 4), (⟨"RowsOfSigns", "cutterOf", "(I)LRowsOfSigns$Cutter;"⟩, 6), (⟨"RowsOfSigns$Cutter", "tokenStart", "(I)I"⟩, 5), (⟨"RowsOfSigns$Cutter", "separatesAt", "(I)Z"⟩, 5), (⟨"RowsOfSigns$Cutter", "tokenEnd", "(I)I"⟩, 5), (⟨"RowsOfSignsModel", "laySign", "(I)V"⟩, 17), (⟨"RowsOfSignsModel", "append", "(I)I"⟩, 17)]
theorem lw_r1 : ∀ q ∈ lw_privs_1, lw_okq q := List.forall_mem_cons.mpr ⟨lw_p0, List.forall_mem_cons.mpr ⟨lw_p1, List.forall_mem_cons.mpr ⟨lw_p2, List.forall_mem_cons.mpr ⟨lw_p3, List.forall_mem_cons.mpr ⟨lw_p4, List.forall_mem_cons.mpr ⟨lw_p5, List.forall_mem_cons.mpr ⟨lw_p6, List.forall_mem_cons.mpr ⟨lw_p7, List.forall_mem_cons.mpr ⟨lw_p8, List.forall_mem_cons.mpr ⟨lw_p9, List.forall_mem_cons.mpr ⟨lw_p10, List.forall_mem_cons.mpr ⟨lw_p11, List.forall_mem_cons.mpr ⟨lw_p12, List.forall_mem_cons.mpr ⟨lw_p13, List.forall_mem_cons.mpr ⟨lw_p14, List.forall_mem_cons.mpr ⟨lw_p15, fun _ h => absurd h List.not_mem_nil⟩⟩⟩⟩⟩⟩⟩⟩⟩⟩⟩⟩⟩⟩⟩⟩
theorem lw_p16 : lw_okq (⟨"RowsOfSignsModel", "edit", "(III)I"⟩, 17) := ⟨⟨by decide +kernel, by decide +kernel⟩, List.mem_of_getElem? (i := 540) (by decide +kernel), List.mem_of_getElem? (i := 621) (by decide +kernel), List.mem_of_getElem? (i := 622) (by decide +kernel)⟩
theorem lw_p17 : lw_okq (⟨"RowsOfSignsModel", "layText", "(I)V"⟩, 17) := ⟨⟨by decide +kernel, by decide +kernel⟩, List.mem_of_getElem? (i := 540) (by decide +kernel), List.mem_of_getElem? (i := 638) (by decide +kernel), List.mem_of_getElem? (i := 639) (by decide +kernel)⟩
theorem lw_p18 : lw_okq (⟨"RowsOfSignsModel", "clip", "(II)V"⟩, 17) := ⟨⟨by decide +kernel, by decide +kernel⟩, List.mem_of_getElem? (i := 540) (by decide +kernel), List.mem_of_getElem? (i := 646) (by decide +kernel), List.mem_of_getElem? (i := 647) (by decide +kernel)⟩
theorem lw_p19 : lw_okq (⟨"RowsOfSignsModel", "canDrop", "(III)Z"⟩, 17) := ⟨⟨by decide +kernel, by decide +kernel⟩, List.mem_of_getElem? (i := 540) (by decide +kernel), List.mem_of_getElem? (i := 671) (by decide +kernel), List.mem_of_getElem? (i := 672) (by decide +kernel)⟩
theorem lw_p20 : lw_okq (⟨"RowsOfSignsModel", "endOf", "(II)I"⟩, 17) := ⟨⟨by decide +kernel, by decide +kernel⟩, List.mem_of_getElem? (i := 540) (by decide +kernel), List.mem_of_getElem? (i := 675) (by decide +kernel), List.mem_of_getElem? (i := 676) (by decide +kernel)⟩
theorem lw_p21 : lw_okq (⟨"RowsOfSignsModel", "firstOf", "([IIII)I"⟩, 17) := ⟨⟨by decide +kernel, by decide +kernel⟩, List.mem_of_getElem? (i := 540) (by decide +kernel), List.mem_of_getElem? (i := 711) (by decide +kernel), List.mem_of_getElem? (i := 712) (by decide +kernel)⟩
theorem lw_p22 : lw_okq (⟨"RowsOfSignsModel", "stands", "([IIII)Z"⟩, 17) := ⟨⟨by decide +kernel, by decide +kernel⟩, List.mem_of_getElem? (i := 540) (by decide +kernel), List.mem_of_getElem? (i := 715) (by decide +kernel), List.mem_of_getElem? (i := 716) (by decide +kernel)⟩
theorem lw_p23 : lw_okq (⟨"RowsOfSignsModel", "lastOf", "([IIII)I"⟩, 17) := ⟨⟨by decide +kernel, by decide +kernel⟩, List.mem_of_getElem? (i := 540) (by decide +kernel), List.mem_of_getElem? (i := 723) (by decide +kernel), List.mem_of_getElem? (i := 724) (by decide +kernel)⟩
theorem lw_p24 : lw_okq (⟨"RowsOfSignsModel", "become", "(I)I"⟩, 17) := ⟨⟨by decide +kernel, by decide +kernel⟩, List.mem_of_getElem? (i := 540) (by decide +kernel), List.mem_of_getElem? (i := 731) (by decide +kernel), List.mem_of_getElem? (i := 732) (by decide +kernel)⟩
theorem lw_p25 : lw_okq (⟨"RowsOfSignsModel", "bars", "(II)I"⟩, 17) := ⟨⟨by decide +kernel, by decide +kernel⟩, List.mem_of_getElem? (i := 540) (by decide +kernel), List.mem_of_getElem? (i := 758) (by decide +kernel), List.mem_of_getElem? (i := 759) (by decide +kernel)⟩
theorem lw_p26 : lw_okq (⟨"RowsOfSignsModel", "barsTwo", "(II)I"⟩, 17) := ⟨⟨by decide +kernel, by decide +kernel⟩, List.mem_of_getElem? (i := 540) (by decide +kernel), List.mem_of_getElem? (i := 770) (by decide +kernel), List.mem_of_getElem? (i := 771) (by decide +kernel)⟩
theorem lw_p27 : lw_okq (⟨"RowsOfSignsModel", "barsOne", "(II)I"⟩, 17) := ⟨⟨by decide +kernel, by decide +kernel⟩, List.mem_of_getElem? (i := 540) (by decide +kernel), List.mem_of_getElem? (i := 798) (by decide +kernel), List.mem_of_getElem? (i := 799) (by decide +kernel)⟩
theorem lw_p28 : lw_okq (⟨"RowsOfSignsModel", "layPart", "(II)V"⟩, 17) := ⟨⟨by decide +kernel, by decide +kernel⟩, List.mem_of_getElem? (i := 540) (by decide +kernel), List.mem_of_getElem? (i := 828) (by decide +kernel), List.mem_of_getElem? (i := 829) (by decide +kernel)⟩
theorem lw_p29 : lw_okq (⟨"RowsOfSignsModel", "addPart", "(I)V"⟩, 17) := ⟨⟨by decide +kernel, by decide +kernel⟩, List.mem_of_getElem? (i := 540) (by decide +kernel), List.mem_of_getElem? (i := 840) (by decide +kernel), List.mem_of_getElem? (i := 841) (by decide +kernel)⟩
theorem lw_p30 : lw_okq (⟨"RowsOfSignsModel", "laySeparators", "(II)V"⟩, 17) := ⟨⟨by decide +kernel, by decide +kernel⟩, List.mem_of_getElem? (i := 540) (by decide +kernel), List.mem_of_getElem? (i := 855) (by decide +kernel), List.mem_of_getElem? (i := 856) (by decide +kernel)⟩
theorem lw_p31 : lw_okq (⟨"RowsOfSignsModel", "leftOf", "(I)I"⟩, 17) := ⟨⟨by decide +kernel, by decide +kernel⟩, List.mem_of_getElem? (i := 540) (by decide +kernel), List.mem_of_getElem? (i := 859) (by decide +kernel), List.mem_of_getElem? (i := 860) (by decide +kernel)⟩
def lw_privs_2 : List (MethodName × Nat) := [(⟨"RowsOfSignsModel", "edit", "(III)I"⟩, 17), (⟨"RowsOfSignsModel", "layText", "(I)V"⟩, 17), (⟨"RowsOfSignsModel", "clip", "(II)V"⟩, 17), (⟨"RowsOfSignsModel", "canDrop", "(III)Z"⟩, 17), (⟨"RowsOfSignsModel", "endOf", "(II)I"⟩, 17), (⟨"RowsOfSignsModel", "firstOf", "([IIII)I"⟩, 17), (⟨"RowsOfSignsModel", "stands", "([IIII)Z"⟩, 17), (⟨"RowsOfSignsModel", "lastOf", "([IIII)I"⟩, 17), (⟨"RowsOfSignsModel", "become", "(I)I"⟩, 17), (⟨"RowsOfSignsModel", "bars", "(II)I"⟩, 17), (⟨"RowsOfSignsModel", "barsTwo", "(II)I"⟩, 17), (⟨"RowsOfSignsModel", "barsOne", "(II)I"⟩, 17), (⟨"RowsOfSignsModel", "layPart", "(II)V"⟩, 17), (⟨"RowsOfSignsModel", "addPart", "(I)V"⟩, 17), (⟨"RowsOfSignsModel", "laySeparators", "(II)V"⟩, 17), (⟨"RowsOfSignsModel", "leftOf", "(I)I"⟩, 17)]
theorem lw_r2 : ∀ q ∈ lw_privs_2, lw_okq q := List.forall_mem_cons.mpr ⟨lw_p16, List.forall_mem_cons.mpr ⟨lw_p17, List.forall_mem_cons.mpr ⟨lw_p18, List.forall_mem_cons.mpr ⟨lw_p19, List.forall_mem_cons.mpr ⟨lw_p20, List.forall_mem_cons.mpr ⟨lw_p21, List.forall_mem_cons.mpr ⟨lw_p22, List.forall_mem_cons.mpr ⟨lw_p23, List.forall_mem_cons.mpr ⟨lw_p24, List.forall_mem_cons.mpr ⟨lw_p25, List.forall_mem_cons.mpr ⟨lw_p26, List.forall_mem_cons.mpr ⟨lw_p27, List.forall_mem_cons.mpr ⟨lw_p28, List.forall_mem_cons.mpr ⟨lw_p29, List.forall_mem_cons.mpr ⟨lw_p30, List.forall_mem_cons.mpr ⟨lw_p31, fun _ h => absurd h List.not_mem_nil⟩⟩⟩⟩⟩⟩⟩⟩⟩⟩⟩⟩⟩⟩⟩⟩
theorem lw_p32 : lw_okq (⟨"RowsOfSignsModel", "beginOf", "(II)I"⟩, 17) := ⟨⟨by decide +kernel, by decide +kernel⟩, List.mem_of_getElem? (i := 540) (by decide +kernel), List.mem_of_getElem? (i := 863) (by decide +kernel), List.mem_of_getElem? (i := 864) (by decide +kernel)⟩
theorem lw_p33 : lw_okq (⟨"RowsOfSignsModel", "isSeparatorAt", "(II)Z"⟩, 17) := ⟨⟨by decide +kernel, by decide +kernel⟩, List.mem_of_getElem? (i := 540) (by decide +kernel), List.mem_of_getElem? (i := 867) (by decide +kernel), List.mem_of_getElem? (i := 868) (by decide +kernel)⟩
theorem lw_p34 : lw_okq (⟨"RowsOfSignsModel", "behindOf", "(II)I"⟩, 17) := ⟨⟨by decide +kernel, by decide +kernel⟩, List.mem_of_getElem? (i := 540) (by decide +kernel), List.mem_of_getElem? (i := 871) (by decide +kernel), List.mem_of_getElem? (i := 872) (by decide +kernel)⟩
theorem lw_p35 : lw_okq (⟨"RowsOfSignsModel", "takes", "(II)I"⟩, 17) := ⟨⟨by decide +kernel, by decide +kernel⟩, List.mem_of_getElem? (i := 540) (by decide +kernel), List.mem_of_getElem? (i := 887) (by decide +kernel), List.mem_of_getElem? (i := 888) (by decide +kernel)⟩
theorem lw_p36 : lw_okq (⟨"RowsOfSignsModel", "mix", "(J)V"⟩, 17) := ⟨⟨by decide +kernel, by decide +kernel⟩, List.mem_of_getElem? (i := 540) (by decide +kernel), List.mem_of_getElem? (i := 900) (by decide +kernel), List.mem_of_getElem? (i := 901) (by decide +kernel)⟩
def lw_privs_3 : List (MethodName × Nat) := [(⟨"RowsOfSignsModel", "beginOf", "(II)I"⟩, 17), (⟨"RowsOfSignsModel", "isSeparatorAt", "(II)Z"⟩, 17), (⟨"RowsOfSignsModel", "behindOf", "(II)I"⟩, 17), (⟨"RowsOfSignsModel", "takes", "(II)I"⟩, 17), (⟨"RowsOfSignsModel", "mix", "(J)V"⟩, 17)]
theorem lw_r3 : ∀ q ∈ lw_privs_3, lw_okq q := List.forall_mem_cons.mpr ⟨lw_p32, List.forall_mem_cons.mpr ⟨lw_p33, List.forall_mem_cons.mpr ⟨lw_p34, List.forall_mem_cons.mpr ⟨lw_p35, List.forall_mem_cons.mpr ⟨lw_p36, fun _ h => absurd h List.not_mem_nil⟩⟩⟩⟩⟩
def lw_privs : List (MethodName × Nat) := lw_privs_1 ++ (lw_privs_2 ++ (lw_privs_3))
def lw_tbl : List Cond := k2_sels lw_privs ++ tables_1
theorem lw_privs_ok : ∀ q ∈ lw_privs, lw_okq q := by
  show ∀ q ∈ lw_privs_1 ++ (lw_privs_2 ++ (lw_privs_3)), lw_okq q
  exact List.forall_mem_append.mpr ⟨lw_r1, List.forall_mem_append.mpr ⟨lw_r2, lw_r3⟩⟩
-- ===== end of PART A; then your names; then what follows =====
end
section
/-! ===== BEGIN words of one list among another's, by their places ===== -/
theorem goodIn_r {big : List Cond} (ws : List Cond) (ps : List Nat) (hp : ws = ps.filterMap (fun i => big[i]?)) (h : ws.all goodWord = true) : GoodIn big ws := by
  intro w hw
  have h1 := List.all_eq_true.mp h w hw
  rw [hp] at hw
  obtain ⟨i, -, hi⟩ := List.mem_filterMap.mp hw
  have hm : w ∈ big := by first | exact List.mem_of_getElem? hi | exact List.getElem?_mem hi
  exact ⟨hm, good_of_word h1⟩
theorem goodIn_app {big a b : List Cond} (ha : GoodIn big a) (hb : GoodIn big b) : GoodIn big (a ++ b) := fun w h => (List.mem_append.mp h).elim (ha w) (hb w)
theorem goodIn_ca {big a b : List Cond} {c : Cond} (ha : GoodIn big (c :: a)) (hb : GoodIn big b) : GoodIn big (c :: (a ++ b)) := fun w h => (List.mem_cons.mp h).elim (fun e => ha w (List.mem_cons.mpr (Or.inl e))) (fun h => (List.mem_append.mp h).elim (fun h => ha w (List.mem_cons.mpr (Or.inr h))) (hb w))
theorem goodIn_sub {big ws : List Cond} (hm : ∀ w ∈ ws, w ∈ big) (h : ws.all goodWord = true) : GoodIn big ws := fun w hw => ⟨hm w hw, good_of_word (List.all_eq_true.mp h w hw)⟩
/-! ===== BEGIN printed: names, fields, word lists, decode rows ===== -/
def RX0 : String := "RowsOfSigns$Cutter"
def TX0 : u_T := fun k => match k with
  | 0 => ("RowsOfSigns$Cutter", "row", "LRowsOfSigns$Row;", true)
  | 1 => ("RowsOfSigns$Cutter", "separators", "[Z", true)
  | 2 => ("RowsOfSigns$Cutter", "gives", "Z", false)
  | 3 => ("RowsOfSigns$Cutter", "missing", "Z", false)
  | _ => ("RowsOfSigns$Cutter", "place", "I", false)
def tyX0 : Nat → FieldType := fun k => match k with
  | 0 => .object "RowsOfSigns$Row"
  | 1 => .array .boolean
  | 2 => .boolean
  | 3 => .boolean
  | _ => .int
abbrev wsX00 : List Cond := u_ws RX0 TX0 5
theorem nmX0 : ∀ a, a < 5 → ∀ b, b < 5 → a ≠ b → (TX0 a).2.1 ≠ (TX0 b).2.1 := by decide +kernel
theorem tyX0_ok : ∀ k, k < 5 → parseFieldDescriptor (TX0 k).2.2.1 = some (tyX0 k) := by decide +kernel
abbrev cX0_init : ByteArray := prog_2_method_1_code
def yX0_init : MethodName := ⟨RX0, "<init>", "()V"⟩
abbrev cX0_begin : ByteArray := prog_2_method_2_code
def yX0_begin : MethodName := ⟨RX0, "begin", "(LRowsOfSigns$Row;LRowsOfSigns$Row;Z)V"⟩
abbrev cX0_separateBy : ByteArray := prog_2_method_3_code
def yX0_separateBy : MethodName := ⟨RX0, "separateBy", "(LRowsOfSigns$Row;)V"⟩
abbrev cX0_hasToken : ByteArray := prog_2_method_4_code
def yX0_hasToken : MethodName := ⟨RX0, "hasToken", "()Z"⟩
abbrev cX0_tokensLeft : ByteArray := prog_2_method_5_code
def yX0_tokensLeft : MethodName := ⟨RX0, "tokensLeft", "()I"⟩
abbrev cX0_giveToken : ByteArray := prog_2_method_6_code
def yX0_giveToken : MethodName := ⟨RX0, "giveToken", "(LRowsOfSigns$Text;)I"⟩
abbrev cX0_separatesAt : ByteArray := prog_2_method_7_code
def yX0_separatesAt : MethodName := ⟨RX0, "separatesAt", "(I)Z"⟩
abbrev cX0_tokenStart : ByteArray := prog_2_method_8_code
def yX0_tokenStart : MethodName := ⟨RX0, "tokenStart", "(I)I"⟩
abbrev cX0_tokenEnd : ByteArray := prog_2_method_9_code
def yX0_tokenEnd : MethodName := ⟨RX0, "tokenEnd", "(I)I"⟩
def RX1 : String := "RowsOfSigns$Parts"
def TX1 : u_T := fun k => match k with
  | 0 => ("RowsOfSigns$Parts", "whole", "LRowsOfSigns$Row;", true)
  | 1 => ("RowsOfSigns$Parts", "starts", "[I", true)
  | 2 => ("RowsOfSigns$Parts", "ends", "[I", true)
  | _ => ("RowsOfSigns$Parts", "count", "I", false)
def tyX1 : Nat → FieldType := fun k => match k with
  | 0 => .object "RowsOfSigns$Row"
  | 1 => .array .int
  | 2 => .array .int
  | _ => .int
abbrev wsX10 : List Cond := u_ws RX1 TX1 4
theorem nmX1 : ∀ a, a < 4 → ∀ b, b < 4 → a ≠ b → (TX1 a).2.1 ≠ (TX1 b).2.1 := by decide +kernel
theorem tyX1_ok : ∀ k, k < 4 → parseFieldDescriptor (TX1 k).2.2.1 = some (tyX1 k) := by decide +kernel
abbrev cX1_init : ByteArray := prog_3_method_1_code
def yX1_init : MethodName := ⟨RX1, "<init>", "()V"⟩
abbrev cX1_has : ByteArray := prog_3_method_2_code
def yX1_has : MethodName := ⟨RX1, "has", "(I)Z"⟩
abbrev cX1_start : ByteArray := prog_3_method_3_code
def yX1_start : MethodName := ⟨RX1, "start", "(I)I"⟩
abbrev cX1_end : ByteArray := prog_3_method_4_code
def yX1_end : MethodName := ⟨RX1, "end", "(I)I"⟩
abbrev cX1_fall : ByteArray := prog_3_method_5_code
def yX1_fall : MethodName := ⟨RX1, "fall", "(LRowsOfSigns$Row;II)V"⟩
abbrev cX1_mayPart : ByteArray := prog_3_method_6_code
def yX1_mayPart : MethodName := ⟨RX1, "mayPart", "(I)Z"⟩
abbrev cX1_addPart : ByteArray := prog_3_method_7_code
def yX1_addPart : MethodName := ⟨RX1, "addPart", "(II)V"⟩
abbrev cX1_dropEmptyEnd : ByteArray := prog_3_method_8_code
def yX1_dropEmptyEnd : MethodName := ⟨RX1, "dropEmptyEnd", "()V"⟩
def RX2 : String := "RowsOfSigns$Row"
def TX2 : u_T := fun k => match k with
  | 0 => ("RowsOfSigns$Row", "signs", "[I", true)
  | _ => ("RowsOfSigns$Row", "size", "I", false)
def tyX2 : Nat → FieldType := fun k => match k with
  | 0 => .array .int
  | _ => .int
abbrev wsX20 : List Cond := u_ws RX2 TX2 2
theorem nmX2 : ∀ a, a < 2 → ∀ b, b < 2 → a ≠ b → (TX2 a).2.1 ≠ (TX2 b).2.1 := by decide +kernel
theorem tyX2_ok : ∀ k, k < 2 → parseFieldDescriptor (TX2 k).2.2.1 = some (tyX2 k) := by decide +kernel
abbrev cX2_init : ByteArray := prog_4_method_1_code
def yX2_init : MethodName := ⟨RX2, "<init>", "()V"⟩
abbrev cX2_holds : ByteArray := prog_4_method_2_code
def yX2_holds : MethodName := ⟨RX2, "holds", "(I)Z"⟩
abbrev cX2_spans : ByteArray := prog_4_method_3_code
def yX2_spans : MethodName := ⟨RX2, "spans", "(II)Z"⟩
abbrev cX2_signThere : ByteArray := prog_4_method_4_code
def yX2_signThere : MethodName := ⟨RX2, "signThere", "(I)I"⟩
abbrev cX2_write : ByteArray := prog_4_method_5_code
def yX2_write : MethodName := ⟨RX2, "write", "(II)V"⟩
abbrev cX2_writeEach : ByteArray := prog_4_method_6_code
def yX2_writeEach : MethodName := ⟨RX2, "writeEach", "(II)V"⟩
abbrev cX2_clear : ByteArray := prog_4_method_7_code
def yX2_clear : MethodName := ⟨RX2, "clear", "()V"⟩
abbrev cX2_add : ByteArray := prog_4_method_8_code
def yX2_add : MethodName := ⟨RX2, "add", "(I)V"⟩
abbrev cX2_resize : ByteArray := prog_4_method_9_code
def yX2_resize : MethodName := ⟨RX2, "resize", "(I)V"⟩
abbrev cX2_copy : ByteArray := prog_4_method_10_code
def yX2_copy : MethodName := ⟨RX2, "copy", "(LRowsOfSigns$Row;II)I"⟩
abbrev cX2_joinIn : ByteArray := prog_4_method_11_code
def yX2_joinIn : MethodName := ⟨RX2, "joinIn", "(ILRowsOfSigns$Row;)I"⟩
abbrev cX2_exchange : ByteArray := prog_4_method_12_code
def yX2_exchange : MethodName := ⟨RX2, "exchange", "(IILRowsOfSigns$Row;)I"⟩
abbrev cX2_change : ByteArray := prog_4_method_13_code
def yX2_change : MethodName := ⟨RX2, "change", "(IILRowsOfSigns$Row;II)I"⟩
abbrev cX2_turnRound : ByteArray := prog_4_method_14_code
def yX2_turnRound : MethodName := ⟨RX2, "turnRound", "()V"⟩
abbrev cX2_hasStanding : ByteArray := prog_4_method_15_code
def yX2_hasStanding : MethodName := ⟨RX2, "hasStanding", "(LRowsOfSigns$Row;I)Z"⟩
abbrev cX2_sameRegion : ByteArray := prog_4_method_16_code
def yX2_sameRegion : MethodName := ⟨RX2, "sameRegion", "(ILRowsOfSigns$Row;II)Z"⟩
abbrev cX2_findForward : ByteArray := prog_4_method_17_code
def yX2_findForward : MethodName := ⟨RX2, "findForward", "(LRowsOfSigns$Row;I)I"⟩
abbrev cX2_findBackward : ByteArray := prog_4_method_18_code
def yX2_findBackward : MethodName := ⟨RX2, "findBackward", "(LRowsOfSigns$Row;I)I"⟩
abbrev cX2_signForward : ByteArray := prog_4_method_19_code
def yX2_signForward : MethodName := ⟨RX2, "signForward", "(II)I"⟩
abbrev cX2_signBackward : ByteArray := prog_4_method_20_code
def yX2_signBackward : MethodName := ⟨RX2, "signBackward", "(II)I"⟩
abbrev cX2_against : ByteArray := prog_4_method_21_code
def yX2_against : MethodName := ⟨RX2, "against", "(LRowsOfSigns$Row;)I"⟩
abbrev cX2_blanksAhead : ByteArray := prog_4_method_22_code
def yX2_blanksAhead : MethodName := ⟨RX2, "blanksAhead", "()I"⟩
abbrev cX2_endBeforeBlanks : ByteArray := prog_4_method_23_code
def yX2_endBeforeBlanks : MethodName := ⟨RX2, "endBeforeBlanks", "(I)I"⟩
def RX3 : String := "RowsOfSigns$Text"
def TX3 : u_T := fun k => match k with
  | 0 => ("RowsOfSigns$Text", "row", "LRowsOfSigns$Row;", true)
  | _ => ("RowsOfSigns$Text", "missing", "Z", false)
def tyX3 : Nat → FieldType := fun k => match k with
  | 0 => .object "RowsOfSigns$Row"
  | _ => .boolean
abbrev wsX30 : List Cond := u_ws RX3 TX3 2
theorem nmX3 : ∀ a, a < 2 → ∀ b, b < 2 → a ≠ b → (TX3 a).2.1 ≠ (TX3 b).2.1 := by decide +kernel
theorem tyX3_ok : ∀ k, k < 2 → parseFieldDescriptor (TX3 k).2.2.1 = some (tyX3 k) := by decide +kernel
abbrev cX3_init : ByteArray := prog_5_method_1_code
def yX3_init : MethodName := ⟨RX3, "<init>", "()V"⟩
abbrev cX3_become : ByteArray := prog_5_method_2_code
def yX3_become : MethodName := ⟨RX3, "become", "(LRowsOfSigns$Row;II)I"⟩
def RX4 : String := "RowsOfSigns"
def TX4 : u_T := fun k => match k with
  | 0 => ("RowsOfSigns", "builders", "[LRowsOfSigns$Row;", true)
  | 1 => ("RowsOfSigns", "texts", "[LRowsOfSigns$Text;", true)
  | 2 => ("RowsOfSigns", "cutters", "[LRowsOfSigns$Cutter;", true)
  | 3 => ("RowsOfSigns", "pieces", "LRowsOfSigns$Parts;", true)
  | 4 => ("RowsOfSigns", "four", "LRowsOfSigns$Row;", true)
  | _ => ("RowsOfSigns", "spare", "LRowsOfSigns$Row;", true)
def tyX4 : Nat → FieldType := fun k => match k with
  | 0 => .array (.object "RowsOfSigns$Row")
  | 1 => .array (.object "RowsOfSigns$Text")
  | 2 => .array (.object "RowsOfSigns$Cutter")
  | 3 => .object "RowsOfSigns$Parts"
  | 4 => .object "RowsOfSigns$Row"
  | _ => .object "RowsOfSigns$Row"
abbrev wsX40 : List Cond := u_ws RX4 TX4 6
theorem nmX4 : ∀ a, a < 6 → ∀ b, b < 6 → a ≠ b → (TX4 a).2.1 ≠ (TX4 b).2.1 := by decide +kernel
theorem tyX4_ok : ∀ k, k < 6 → parseFieldDescriptor (TX4 k).2.2.1 = some (tyX4 k) := by decide +kernel
abbrev cX4_init : ByteArray := prog_1_method_1_code
def yX4_init : MethodName := ⟨RX4, "<init>", "()V"⟩
abbrev cX4_sign : ByteArray := prog_1_method_2_code
def yX4_sign : MethodName := ⟨RX4, "sign", "(II)I"⟩
abbrev cX4_signs : ByteArray := prog_1_method_3_code
def yX4_signs : MethodName := ⟨RX4, "signs", "(IIJ)I"⟩
abbrev cX4_text : ByteArray := prog_1_method_4_code
def yX4_text : MethodName := ⟨RX4, "text", "(II)I"⟩
abbrev cX4_part : ByteArray := prog_1_method_5_code
def yX4_part : MethodName := ⟨RX4, "part", "(IIII)I"⟩
abbrev cX4_number : ByteArray := prog_1_method_6_code
def yX4_number : MethodName := ⟨RX4, "number", "(IJ)I"⟩
abbrev cX4_insert : ByteArray := prog_1_method_7_code
def yX4_insert : MethodName := ⟨RX4, "insert", "(III)I"⟩
abbrev cX4_insertPart : ByteArray := prog_1_method_8_code
def yX4_insertPart : MethodName := ⟨RX4, "insertPart", "(IIIII)I"⟩
abbrev cX4_insertSign : ByteArray := prog_1_method_9_code
def yX4_insertSign : MethodName := ⟨RX4, "insertSign", "(III)I"⟩
abbrev cX4_delete : ByteArray := prog_1_method_10_code
def yX4_delete : MethodName := ⟨RX4, "delete", "(III)I"⟩
abbrev cX4_deleteAt : ByteArray := prog_1_method_11_code
def yX4_deleteAt : MethodName := ⟨RX4, "deleteAt", "(II)I"⟩
abbrev cX4_replace : ByteArray := prog_1_method_12_code
def yX4_replace : MethodName := ⟨RX4, "replace", "(IIII)I"⟩
abbrev cX4_reverse : ByteArray := prog_1_method_13_code
def yX4_reverse : MethodName := ⟨RX4, "reverse", "(I)I"⟩
abbrev cX4_put : ByteArray := prog_1_method_14_code
def yX4_put : MethodName := ⟨RX4, "put", "(III)I"⟩
abbrev cX4_length : ByteArray := prog_1_method_15_code
def yX4_length : MethodName := ⟨RX4, "length", "(II)I"⟩
abbrev cX4_at : ByteArray := prog_1_method_16_code
def yX4_at : MethodName := ⟨RX4, "at", "(II)I"⟩
abbrev cX4_size : ByteArray := prog_1_method_17_code
def yX4_size : MethodName := ⟨RX4, "size", "(I)I"⟩
abbrev cX4_first : ByteArray := prog_1_method_18_code
def yX4_first : MethodName := ⟨RX4, "first", "(III)I"⟩
abbrev cX4_last : ByteArray := prog_1_method_19_code
def yX4_last : MethodName := ⟨RX4, "last", "(III)I"⟩
abbrev cX4_take : ByteArray := prog_1_method_20_code
def yX4_take : MethodName := ⟨RX4, "take", "(IIII)I"⟩
abbrev cX4_ahead : ByteArray := prog_1_method_21_code
def yX4_ahead : MethodName := ⟨RX4, "ahead", "(II)I"⟩
abbrev cX4_forget : ByteArray := prog_1_method_22_code
def yX4_forget : MethodName := ⟨RX4, "forget", "(I)I"⟩
abbrev cX4_textSize : ByteArray := prog_1_method_23_code
def yX4_textSize : MethodName := ⟨RX4, "textSize", "(I)I"⟩
abbrev cX4_signAt : ByteArray := prog_1_method_24_code
def yX4_signAt : MethodName := ⟨RX4, "signAt", "(II)I"⟩
abbrev cX4_firstSign : ByteArray := prog_1_method_25_code
def yX4_firstSign : MethodName := ⟨RX4, "firstSign", "(III)I"⟩
abbrev cX4_lastSign : ByteArray := prog_1_method_26_code
def yX4_lastSign : MethodName := ⟨RX4, "lastSign", "(III)I"⟩
abbrev cX4_firstText : ByteArray := prog_1_method_27_code
def yX4_firstText : MethodName := ⟨RX4, "firstText", "(III)I"⟩
abbrev cX4_lastText : ByteArray := prog_1_method_28_code
def yX4_lastText : MethodName := ⟨RX4, "lastText", "(III)I"⟩
abbrev cX4_region : ByteArray := prog_1_method_29_code
def yX4_region : MethodName := ⟨RX4, "region", "(IIIII)I"⟩
abbrev cX4_order : ByteArray := prog_1_method_30_code
def yX4_order : MethodName := ⟨RX4, "order", "(II)I"⟩
abbrev cX4_begins : ByteArray := prog_1_method_31_code
def yX4_begins : MethodName := ⟨RX4, "begins", "(III)I"⟩
abbrev cX4_swap : ByteArray := prog_1_method_32_code
def yX4_swap : MethodName := ⟨RX4, "swap", "(IIII)I"⟩
abbrev cX4_sub : ByteArray := prog_1_method_33_code
def yX4_sub : MethodName := ⟨RX4, "sub", "(IIII)I"⟩
abbrev cX4_trim : ByteArray := prog_1_method_34_code
def yX4_trim : MethodName := ⟨RX4, "trim", "(II)I"⟩
abbrev cX4_repeat : ByteArray := prog_1_method_35_code
def yX4_repeat : MethodName := ⟨RX4, "repeat", "(III)I"⟩
abbrev cX4_join : ByteArray := prog_1_method_36_code
def yX4_join : MethodName := ⟨RX4, "join", "(III)I"⟩
abbrev cX4_split : ByteArray := prog_1_method_37_code
def yX4_split : MethodName := ⟨RX4, "split", "(III)I"⟩
abbrev cX4_parts : ByteArray := prog_1_method_38_code
def yX4_parts : MethodName := ⟨RX4, "parts", "()I"⟩
abbrev cX4_partTo : ByteArray := prog_1_method_39_code
def yX4_partTo : MethodName := ⟨RX4, "partTo", "(II)I"⟩
abbrev cX4_joined : ByteArray := prog_1_method_40_code
def yX4_joined : MethodName := ⟨RX4, "joined", "(II)I"⟩
abbrev cX4_cutter : ByteArray := prog_1_method_41_code
def yX4_cutter : MethodName := ⟨RX4, "cutter", "(IIIZ)I"⟩
abbrev cX4_more : ByteArray := prog_1_method_42_code
def yX4_more : MethodName := ⟨RX4, "more", "(I)I"⟩
abbrev cX4_left : ByteArray := prog_1_method_43_code
def yX4_left : MethodName := ⟨RX4, "left", "(I)I"⟩
abbrev cX4_next : ByteArray := prog_1_method_44_code
def yX4_next : MethodName := ⟨RX4, "next", "(II)I"⟩
abbrev cX4_nextBy : ByteArray := prog_1_method_45_code
def yX4_nextBy : MethodName := ⟨RX4, "nextBy", "(III)I"⟩
abbrev cX4_digest : ByteArray := prog_1_method_46_code
def yX4_digest : MethodName := ⟨RX4, "digest", "()J"⟩
abbrev cX4_mixed : ByteArray := prog_1_method_47_code
def yX4_mixed : MethodName := ⟨RX4, "mixed", "(JI)J"⟩
abbrev cX4_mixedRow : ByteArray := prog_1_method_48_code
def yX4_mixedRow : MethodName := ⟨RX4, "mixedRow", "(JLRowsOfSigns$Row;II)J"⟩
abbrev cX4_isSign : ByteArray := prog_1_method_49_code
def yX4_isSign : MethodName := ⟨RX4, "isSign", "(I)Z"⟩
abbrev cX4_isSeparator : ByteArray := prog_1_method_50_code
def yX4_isSeparator : MethodName := ⟨RX4, "isSeparator", "(I)Z"⟩
abbrev cX4_builderOf : ByteArray := prog_1_method_51_code
def yX4_builderOf : MethodName := ⟨RX4, "builderOf", "(I)LRowsOfSigns$Row;"⟩
abbrev cX4_textOf : ByteArray := prog_1_method_52_code
def yX4_textOf : MethodName := ⟨RX4, "textOf", "(I)LRowsOfSigns$Text;"⟩
abbrev cX4_cutterOf : ByteArray := prog_1_method_53_code
def yX4_cutterOf : MethodName := ⟨RX4, "cutterOf", "(I)LRowsOfSigns$Cutter;"⟩
abbrev cX4_textOrFour : ByteArray := prog_1_method_54_code
def yX4_textOrFour : MethodName := ⟨RX4, "textOrFour", "(I)LRowsOfSigns$Row;"⟩
abbrev cX4_nothing : ByteArray := prog_1_method_55_code
def yX4_nothing : MethodName := ⟨RX4, "nothing", "()LRowsOfSigns$Row;"⟩
abbrev cX4_single : ByteArray := prog_1_method_56_code
def yX4_single : MethodName := ⟨RX4, "single", "(I)LRowsOfSigns$Row;"⟩
abbrev cX4_lowBytes : ByteArray := prog_1_method_57_code
def yX4_lowBytes : MethodName := ⟨RX4, "lowBytes", "(IJ)LRowsOfSigns$Row;"⟩
abbrev cX4_figures : ByteArray := prog_1_method_58_code
def yX4_figures : MethodName := ⟨RX4, "figures", "(J)LRowsOfSigns$Row;"⟩
def RX5 : String := "RowsOfSignsModel"
def TX5 : u_T := fun k => match k with
  | 0 => ("RowsOfSignsModel", "built", "[I", true)
  | 1 => ("RowsOfSignsModel", "builtMany", "[I", true)
  | 2 => ("RowsOfSignsModel", "told", "[I", true)
  | 3 => ("RowsOfSignsModel", "toldMany", "[I", true)
  | 4 => ("RowsOfSignsModel", "row", "[I", true)
  | 5 => ("RowsOfSignsModel", "rowMany", "I", false)
  | 6 => ("RowsOfSignsModel", "figures", "[I", true)
  | 7 => ("RowsOfSignsModel", "partText", "[I", true)
  | 8 => ("RowsOfSignsModel", "partFrom", "[I", true)
  | 9 => ("RowsOfSignsModel", "partMany", "[I", true)
  | 10 => ("RowsOfSignsModel", "parts", "I", false)
  | 11 => ("RowsOfSignsModel", "cut", "[I", true)
  | 12 => ("RowsOfSignsModel", "cutMany", "[I", true)
  | 13 => ("RowsOfSignsModel", "isCut", "[I", true)
  | 14 => ("RowsOfSignsModel", "cutGives", "[I", true)
  | 15 => ("RowsOfSignsModel", "cutAt", "[I", true)
  | _ => ("RowsOfSignsModel", "h", "J", false)
def tyX5 : Nat → FieldType := fun k => match k with
  | 0 => .array .int
  | 1 => .array .int
  | 2 => .array .int
  | 3 => .array .int
  | 4 => .array .int
  | 5 => .int
  | 6 => .array .int
  | 7 => .array .int
  | 8 => .array .int
  | 9 => .array .int
  | 10 => .int
  | 11 => .array .int
  | 12 => .array .int
  | 13 => .array .int
  | 14 => .array .int
  | 15 => .array .int
  | _ => .long
abbrev wsX50 : List Cond := u_ws RX5 TX5 17
theorem nmX5 : ∀ a, a < 17 → ∀ b, b < 17 → a ≠ b → (TX5 a).2.1 ≠ (TX5 b).2.1 := by decide +kernel
theorem tyX5_ok : ∀ k, k < 17 → parseFieldDescriptor (TX5 k).2.2.1 = some (tyX5 k) := by decide +kernel
abbrev cX5_init : ByteArray := prog_7_method_1_code
def yX5_init : MethodName := ⟨RX5, "<init>", "()V"⟩
abbrev cX5_in : ByteArray := prog_7_method_2_code
def yX5_in : MethodName := ⟨RX5, "in", "(JJJ)Z"⟩
abbrev cX5_isBuilder : ByteArray := prog_7_method_3_code
def yX5_isBuilder : MethodName := ⟨RX5, "isBuilder", "(I)Z"⟩
abbrev cX5_isText : ByteArray := prog_7_method_4_code
def yX5_isText : MethodName := ⟨RX5, "isText", "(I)Z"⟩
abbrev cX5_isSign : ByteArray := prog_7_method_5_code
def yX5_isSign : MethodName := ⟨RX5, "isSign", "(I)Z"⟩
abbrev cX5_layText : ByteArray := prog_7_method_6_code
def yX5_layText : MethodName := ⟨RX5, "layText", "(I)V"⟩
abbrev cX5_clip : ByteArray := prog_7_method_7_code
def yX5_clip : MethodName := ⟨RX5, "clip", "(II)V"⟩
abbrev cX5_laySign : ByteArray := prog_7_method_8_code
def yX5_laySign : MethodName := ⟨RX5, "laySign", "(I)V"⟩
abbrev cX5_become : ByteArray := prog_7_method_9_code
def yX5_become : MethodName := ⟨RX5, "become", "(I)I"⟩
abbrev cX5_edit : ByteArray := prog_7_method_10_code
def yX5_edit : MethodName := ⟨RX5, "edit", "(III)I"⟩
abbrev cX5_append : ByteArray := prog_7_method_11_code
def yX5_append : MethodName := ⟨RX5, "append", "(I)I"⟩
abbrev cX5_sign : ByteArray := prog_7_method_12_code
def yX5_sign : MethodName := ⟨RX5, "sign", "(II)I"⟩
abbrev cX5_signs : ByteArray := prog_7_method_13_code
def yX5_signs : MethodName := ⟨RX5, "signs", "(IIJ)I"⟩
abbrev cX5_text : ByteArray := prog_7_method_14_code
def yX5_text : MethodName := ⟨RX5, "text", "(II)I"⟩
abbrev cX5_part : ByteArray := prog_7_method_15_code
def yX5_part : MethodName := ⟨RX5, "part", "(IIII)I"⟩
abbrev cX5_number : ByteArray := prog_7_method_16_code
def yX5_number : MethodName := ⟨RX5, "number", "(IJ)I"⟩
abbrev cX5_insert : ByteArray := prog_7_method_17_code
def yX5_insert : MethodName := ⟨RX5, "insert", "(III)I"⟩
abbrev cX5_insertPart : ByteArray := prog_7_method_18_code
def yX5_insertPart : MethodName := ⟨RX5, "insertPart", "(IIIII)I"⟩
abbrev cX5_insertSign : ByteArray := prog_7_method_19_code
def yX5_insertSign : MethodName := ⟨RX5, "insertSign", "(III)I"⟩
abbrev cX5_canDrop : ByteArray := prog_7_method_20_code
def yX5_canDrop : MethodName := ⟨RX5, "canDrop", "(III)Z"⟩
abbrev cX5_endOf : ByteArray := prog_7_method_21_code
def yX5_endOf : MethodName := ⟨RX5, "endOf", "(II)I"⟩
abbrev cX5_delete : ByteArray := prog_7_method_22_code
def yX5_delete : MethodName := ⟨RX5, "delete", "(III)I"⟩
abbrev cX5_deleteAt : ByteArray := prog_7_method_23_code
def yX5_deleteAt : MethodName := ⟨RX5, "deleteAt", "(II)I"⟩
abbrev cX5_replace : ByteArray := prog_7_method_24_code
def yX5_replace : MethodName := ⟨RX5, "replace", "(IIII)I"⟩
abbrev cX5_reverse : ByteArray := prog_7_method_25_code
def yX5_reverse : MethodName := ⟨RX5, "reverse", "(I)I"⟩
abbrev cX5_put : ByteArray := prog_7_method_26_code
def yX5_put : MethodName := ⟨RX5, "put", "(III)I"⟩
abbrev cX5_length : ByteArray := prog_7_method_27_code
def yX5_length : MethodName := ⟨RX5, "length", "(II)I"⟩
abbrev cX5_at : ByteArray := prog_7_method_28_code
def yX5_at : MethodName := ⟨RX5, "at", "(II)I"⟩
abbrev cX5_size : ByteArray := prog_7_method_29_code
def yX5_size : MethodName := ⟨RX5, "size", "(I)I"⟩
abbrev cX5_stands : ByteArray := prog_7_method_30_code
def yX5_stands : MethodName := ⟨RX5, "stands", "([IIII)Z"⟩
abbrev cX5_firstOf : ByteArray := prog_7_method_31_code
def yX5_firstOf : MethodName := ⟨RX5, "firstOf", "([IIII)I"⟩
abbrev cX5_lastOf : ByteArray := prog_7_method_32_code
def yX5_lastOf : MethodName := ⟨RX5, "lastOf", "([IIII)I"⟩
abbrev cX5_orderOf : ByteArray := prog_7_method_33_code
def yX5_orderOf : MethodName := ⟨RX5, "orderOf", "([IIIII)I"⟩
abbrev cX5_first : ByteArray := prog_7_method_34_code
def yX5_first : MethodName := ⟨RX5, "first", "(III)I"⟩
abbrev cX5_last : ByteArray := prog_7_method_35_code
def yX5_last : MethodName := ⟨RX5, "last", "(III)I"⟩
abbrev cX5_take : ByteArray := prog_7_method_36_code
def yX5_take : MethodName := ⟨RX5, "take", "(IIII)I"⟩
abbrev cX5_ahead : ByteArray := prog_7_method_37_code
def yX5_ahead : MethodName := ⟨RX5, "ahead", "(II)I"⟩
abbrev cX5_forget : ByteArray := prog_7_method_38_code
def yX5_forget : MethodName := ⟨RX5, "forget", "(I)I"⟩
abbrev cX5_textSize : ByteArray := prog_7_method_39_code
def yX5_textSize : MethodName := ⟨RX5, "textSize", "(I)I"⟩
abbrev cX5_signAt : ByteArray := prog_7_method_40_code
def yX5_signAt : MethodName := ⟨RX5, "signAt", "(II)I"⟩
abbrev cX5_bars : ByteArray := prog_7_method_41_code
def yX5_bars : MethodName := ⟨RX5, "bars", "(II)I"⟩
abbrev cX5_firstSign : ByteArray := prog_7_method_42_code
def yX5_firstSign : MethodName := ⟨RX5, "firstSign", "(III)I"⟩
abbrev cX5_lastSign : ByteArray := prog_7_method_43_code
def yX5_lastSign : MethodName := ⟨RX5, "lastSign", "(III)I"⟩
abbrev cX5_barsTwo : ByteArray := prog_7_method_44_code
def yX5_barsTwo : MethodName := ⟨RX5, "barsTwo", "(II)I"⟩
abbrev cX5_firstText : ByteArray := prog_7_method_45_code
def yX5_firstText : MethodName := ⟨RX5, "firstText", "(III)I"⟩
abbrev cX5_lastText : ByteArray := prog_7_method_46_code
def yX5_lastText : MethodName := ⟨RX5, "lastText", "(III)I"⟩
abbrev cX5_region : ByteArray := prog_7_method_47_code
def yX5_region : MethodName := ⟨RX5, "region", "(IIIII)I"⟩
abbrev cX5_order : ByteArray := prog_7_method_48_code
def yX5_order : MethodName := ⟨RX5, "order", "(II)I"⟩
abbrev cX5_begins : ByteArray := prog_7_method_49_code
def yX5_begins : MethodName := ⟨RX5, "begins", "(III)I"⟩
abbrev cX5_barsOne : ByteArray := prog_7_method_50_code
def yX5_barsOne : MethodName := ⟨RX5, "barsOne", "(II)I"⟩
abbrev cX5_swap : ByteArray := prog_7_method_51_code
def yX5_swap : MethodName := ⟨RX5, "swap", "(IIII)I"⟩
abbrev cX5_sub : ByteArray := prog_7_method_52_code
def yX5_sub : MethodName := ⟨RX5, "sub", "(IIII)I"⟩
abbrev cX5_trim : ByteArray := prog_7_method_53_code
def yX5_trim : MethodName := ⟨RX5, "trim", "(II)I"⟩
abbrev cX5_repeat : ByteArray := prog_7_method_54_code
def yX5_repeat : MethodName := ⟨RX5, "repeat", "(III)I"⟩
abbrev cX5_join : ByteArray := prog_7_method_55_code
def yX5_join : MethodName := ⟨RX5, "join", "(III)I"⟩
abbrev cX5_isSeparator : ByteArray := prog_7_method_56_code
def yX5_isSeparator : MethodName := ⟨RX5, "isSeparator", "(I)Z"⟩
abbrev cX5_layPart : ByteArray := prog_7_method_57_code
def yX5_layPart : MethodName := ⟨RX5, "layPart", "(II)V"⟩
abbrev cX5_split : ByteArray := prog_7_method_58_code
def yX5_split : MethodName := ⟨RX5, "split", "(III)I"⟩
abbrev cX5_parts : ByteArray := prog_7_method_59_code
def yX5_parts : MethodName := ⟨RX5, "parts", "()I"⟩
abbrev cX5_addPart : ByteArray := prog_7_method_60_code
def yX5_addPart : MethodName := ⟨RX5, "addPart", "(I)V"⟩
abbrev cX5_partTo : ByteArray := prog_7_method_61_code
def yX5_partTo : MethodName := ⟨RX5, "partTo", "(II)I"⟩
abbrev cX5_joined : ByteArray := prog_7_method_62_code
def yX5_joined : MethodName := ⟨RX5, "joined", "(II)I"⟩
abbrev cX5_isCutter : ByteArray := prog_7_method_63_code
def yX5_isCutter : MethodName := ⟨RX5, "isCutter", "(I)Z"⟩
abbrev cX5_isSeparatorAt : ByteArray := prog_7_method_64_code
def yX5_isSeparatorAt : MethodName := ⟨RX5, "isSeparatorAt", "(II)Z"⟩
abbrev cX5_laySeparators : ByteArray := prog_7_method_65_code
def yX5_laySeparators : MethodName := ⟨RX5, "laySeparators", "(II)V"⟩
abbrev cX5_beginOf : ByteArray := prog_7_method_66_code
def yX5_beginOf : MethodName := ⟨RX5, "beginOf", "(II)I"⟩
abbrev cX5_behindOf : ByteArray := prog_7_method_67_code
def yX5_behindOf : MethodName := ⟨RX5, "behindOf", "(II)I"⟩
abbrev cX5_leftOf : ByteArray := prog_7_method_68_code
def yX5_leftOf : MethodName := ⟨RX5, "leftOf", "(I)I"⟩
abbrev cX5_cutter : ByteArray := prog_7_method_69_code
def yX5_cutter : MethodName := ⟨RX5, "cutter", "(IIIZ)I"⟩
abbrev cX5_more : ByteArray := prog_7_method_70_code
def yX5_more : MethodName := ⟨RX5, "more", "(I)I"⟩
abbrev cX5_left : ByteArray := prog_7_method_71_code
def yX5_left : MethodName := ⟨RX5, "left", "(I)I"⟩
abbrev cX5_takes : ByteArray := prog_7_method_72_code
def yX5_takes : MethodName := ⟨RX5, "takes", "(II)I"⟩
abbrev cX5_next : ByteArray := prog_7_method_73_code
def yX5_next : MethodName := ⟨RX5, "next", "(II)I"⟩
abbrev cX5_nextBy : ByteArray := prog_7_method_74_code
def yX5_nextBy : MethodName := ⟨RX5, "nextBy", "(III)I"⟩
abbrev cX5_mix : ByteArray := prog_7_method_75_code
def yX5_mix : MethodName := ⟨RX5, "mix", "(J)V"⟩
abbrev cX5_digest : ByteArray := prog_7_method_76_code
def yX5_digest : MethodName := ⟨RX5, "digest", "()J"⟩
def RJ6 : String := "java/lang/Integer"
def TJ6 : u_T := fun k => match k with
  | _ => ("", "", "", false)
def tyJ6 : Nat → FieldType := fun k => match k with
  | _ => .int
abbrev wsJ60 : List Cond := u_ws RJ6 TJ6 0
theorem nmJ6 : ∀ a, a < 0 → ∀ b, b < 0 → a ≠ b → (TJ6 a).2.1 ≠ (TJ6 b).2.1 := by decide +kernel
theorem tyJ6_ok : ∀ k, k < 0 → parseFieldDescriptor (TJ6 k).2.2.1 = some (tyJ6 k) := by decide +kernel
abbrev cJ6_compare_7cf53 : ByteArray := prog_8_method_40_code
def yJ6_compare_7cf53 : MethodName := ⟨RJ6, "compare", "(II)I"⟩
def RJ9 : String := "java/lang/Math"
def TJ9 : u_T := fun k => match k with
  | _ => ("", "", "", false)
def tyJ9 : Nat → FieldType := fun k => match k with
  | _ => .int
abbrev wsJ90 : List Cond := u_ws RJ9 TJ9 0
theorem nmJ9 : ∀ a, a < 0 → ∀ b, b < 0 → a ≠ b → (TJ9 a).2.1 ≠ (TJ9 b).2.1 := by decide +kernel
theorem tyJ9_ok : ∀ k, k < 0 → parseFieldDescriptor (TJ9 k).2.2.1 = some (tyJ9 k) := by decide +kernel
abbrev cJ9_abs_0f7a4 : ByteArray := prog_9_method_59_code
def yJ9_abs_0f7a4 : MethodName := ⟨RJ9, "abs", "(I)I"⟩
abbrev cJ9_max_7cf53 : ByteArray := prog_9_method_65_code
def yJ9_max_7cf53 : MethodName := ⟨RJ9, "max", "(II)I"⟩
abbrev cJ9_min_7cf53 : ByteArray := prog_9_method_69_code
def yJ9_min_7cf53 : MethodName := ⟨RJ9, "min", "(II)I"⟩
def RJ10 : String := "java/lang/System"
def TJ10 : u_T := fun k => match k with
  | _ => ("", "", "", false)
def tyJ10 : Nat → FieldType := fun k => match k with
  | _ => .int
abbrev wsJ100 : List Cond := u_ws RJ10 TJ10 0
theorem nmJ10 : ∀ a, a < 0 → ∀ b, b < 0 → a ≠ b → (TJ10 a).2.1 ≠ (TJ10 b).2.1 := by decide +kernel
theorem tyJ10_ok : ∀ k, k < 0 → parseFieldDescriptor (TJ10 k).2.2.1 = some (tyJ10 k) := by decide +kernel
def RL : String := "RowsOfSignsLaw"
abbrev cL_law : ByteArray := code
def yL_law : MethodName := ⟨RL, "law", "([I)Z"⟩
abbrev vwCl : List vw_C := [(RX0, TX0, 5), (RX1, TX1, 4), (RX2, TX2, 2), (RX3, TX3, 2), (RX4, TX4, 6), (RX5, TX5, 17)]
end
section
/-- the words of the tables that keep their truth while the law runs: one list for all methods -/
def xU : List Cond := lw_tbl.filter goodWord
theorem xU_of {w : Cond} (i : Nat) (h : lw_tbl[i]? = some w) (g : goodWord w = true) : w ∈ xU := List.mem_filter.mpr ⟨List.mem_of_getElem? h, g⟩
theorem xU_good : ∀ w ∈ xU, goodWord w = true := fun _ h => (List.mem_filter.mp h).2
theorem xU_in : ∀ w ∈ xU, w ∈ lw_tbl := fun _ h => (List.mem_filter.mp h).1
theorem u_cl_RL_7 : Cond.classLink RL 7 RX4 ∈ xU := xU_of 47 (by decide +kernel) (by decide +kernel)
theorem u_ib_RX4 : Cond.instantiable RX4 6 ∈ xU := xU_of 48 (by decide +kernel) (by decide +kernel)
theorem u_in_RX4 : Cond.initialized RX4 ∈ xU := xU_of 38 (by decide +kernel) (by decide +kernel)
theorem u_cl_RL_10 : Cond.classLink RL 10 RX5 ∈ xU := xU_of 576 (by decide +kernel) (by decide +kernel)
theorem u_ib_RX5 : Cond.instantiable RX5 17 ∈ xU := xU_of 577 (by decide +kernel) (by decide +kernel)
theorem u_in_RX5 : Cond.initialized RX5 ∈ xU := xU_of 43 (by decide +kernel) (by decide +kernel)
theorem u_ko_RL_18 : Cond.constantLong RL 18 (4294967295) ∈ xU := xU_of 942 (by decide +kernel) (by decide +kernel)
theorem u_ml_RL_9 : Cond.methodLink RL 9 yX4_init ∈ xU := xU_of 49 (by decide +kernel) (by decide +kernel)
theorem u_im_yX4_init : Cond.instanceMethod yX4_init ∈ xU := xU_of 50 (by decide +kernel) (by decide +kernel)
theorem u_co_yX4_init : Cond.code yX4_init cX4_init 2 none ∈ xU := xU_of 51 (by decide +kernel) (by decide +kernel)
theorem u_ml_RX4_3 : Cond.methodLink RX4 3 objectInit ∈ xU := xU_of 52 (by decide +kernel) (by decide +kernel)
theorem u_im_objectInit : Cond.instanceMethod objectInit ∈ xU := xU_of 53 (by decide +kernel) (by decide +kernel)
theorem u_co_objectInit : Cond.code objectInit ⟨#[0xb1]⟩ 1 none ∈ xU := xU_of 54 (by decide +kernel) (by decide +kernel)
theorem u_cl_RX4_9 : Cond.classLink RX4 9 RX2 ∈ xU := xU_of 55 (by decide +kernel) (by decide +kernel)
theorem u_fl_RX4_11 : Cond.fieldLink RX4 11 "RowsOfSigns" "builders" "[LRowsOfSigns$Row;" ∈ xU := xU_of 147 (by decide +kernel) (by decide +kernel)
theorem u_cl_RX4_15 : Cond.classLink RX4 15 RX3 ∈ xU := xU_of 57 (by decide +kernel) (by decide +kernel)
theorem u_fl_RX4_17 : Cond.fieldLink RX4 17 "RowsOfSigns" "texts" "[LRowsOfSigns$Text;" ∈ xU := xU_of 148 (by decide +kernel) (by decide +kernel)
theorem u_cl_RX4_21 : Cond.classLink RX4 21 RX0 ∈ xU := xU_of 59 (by decide +kernel) (by decide +kernel)
theorem u_fl_RX4_23 : Cond.fieldLink RX4 23 "RowsOfSigns" "cutters" "[LRowsOfSigns$Cutter;" ∈ xU := xU_of 149 (by decide +kernel) (by decide +kernel)
theorem u_cl_RX4_27 : Cond.classLink RX4 27 RX1 ∈ xU := xU_of 61 (by decide +kernel) (by decide +kernel)
theorem u_ib_RX1 : Cond.instantiable RX1 4 ∈ xU := xU_of 62 (by decide +kernel) (by decide +kernel)
theorem u_in_RX1 : Cond.initialized RX1 ∈ xU := xU_of 39 (by decide +kernel) (by decide +kernel)
theorem u_fl_RX4_30 : Cond.fieldLink RX4 30 "RowsOfSigns" "pieces" "LRowsOfSigns$Parts;" ∈ xU := xU_of 150 (by decide +kernel) (by decide +kernel)
theorem u_ib_RX2 : Cond.instantiable RX2 2 ∈ xU := xU_of 68 (by decide +kernel) (by decide +kernel)
theorem u_in_RX2 : Cond.initialized RX2 ∈ xU := xU_of 40 (by decide +kernel) (by decide +kernel)
theorem u_fl_RX4_35 : Cond.fieldLink RX4 35 "RowsOfSigns" "four" "LRowsOfSigns$Row;" ∈ xU := xU_of 151 (by decide +kernel) (by decide +kernel)
theorem u_fl_RX4_39 : Cond.fieldLink RX4 39 "RowsOfSigns" "spare" "LRowsOfSigns$Row;" ∈ xU := xU_of 152 (by decide +kernel) (by decide +kernel)
theorem u_ib_RX3 : Cond.instantiable RX3 2 ∈ xU := xU_of 100 (by decide +kernel) (by decide +kernel)
theorem u_in_RX3 : Cond.initialized RX3 ∈ xU := xU_of 41 (by decide +kernel) (by decide +kernel)
theorem u_ib_RX0 : Cond.instantiable RX0 5 ∈ xU := xU_of 116 (by decide +kernel) (by decide +kernel)
theorem u_in_RX0 : Cond.initialized RX0 ∈ xU := xU_of 42 (by decide +kernel) (by decide +kernel)
theorem u_fl_RX4_44 : Cond.fieldLink RX4 44 "RowsOfSigns" "THE_FOUR" "[I" ∈ xU := xU_of 141 (by decide +kernel) (by decide +kernel)
theorem u_im_yX1_init : Cond.instanceMethod yX1_init ∈ xU := xU_of 64 (by decide +kernel) (by decide +kernel)
theorem u_co_yX1_init : Cond.code yX1_init cX1_init 1 none ∈ xU := xU_of 65 (by decide +kernel) (by decide +kernel)
theorem u_ml_RX1_3 : Cond.methodLink RX1 3 objectInit ∈ xU := xU_of 66 (by decide +kernel) (by decide +kernel)
theorem u_cl_RX1_9 : Cond.classLink RX1 9 RX2 ∈ xU := xU_of 67 (by decide +kernel) (by decide +kernel)
theorem u_fl_RX1_12 : Cond.fieldLink RX1 12 "RowsOfSigns$Parts" "whole" "LRowsOfSigns$Row;" ∈ xU := xU_of 84 (by decide +kernel) (by decide +kernel)
theorem u_ac_int : Cond.arrayClass .int ∈ xU := xU_of 83 (by decide +kernel) (by decide +kernel)
theorem u_fl_RX1_18 : Cond.fieldLink RX1 18 "RowsOfSigns$Parts" "starts" "[I" ∈ xU := xU_of 86 (by decide +kernel) (by decide +kernel)
theorem u_fl_RX1_22 : Cond.fieldLink RX1 22 "RowsOfSigns$Parts" "ends" "[I" ∈ xU := xU_of 87 (by decide +kernel) (by decide +kernel)
theorem u_im_yX2_init : Cond.instanceMethod yX2_init ∈ xU := xU_of 70 (by decide +kernel) (by decide +kernel)
theorem u_co_yX2_init : Cond.code yX2_init cX2_init 1 none ∈ xU := xU_of 71 (by decide +kernel) (by decide +kernel)
theorem u_ml_RX2_3 : Cond.methodLink RX2 3 objectInit ∈ xU := xU_of 72 (by decide +kernel) (by decide +kernel)
theorem u_fl_RX2_9 : Cond.fieldLink RX2 9 "RowsOfSigns$Row" "signs" "[I" ∈ xU := xU_of 73 (by decide +kernel) (by decide +kernel)
theorem u_im_yX3_init : Cond.instanceMethod yX3_init ∈ xU := xU_of 102 (by decide +kernel) (by decide +kernel)
theorem u_co_yX3_init : Cond.code yX3_init cX3_init 1 none ∈ xU := xU_of 103 (by decide +kernel) (by decide +kernel)
theorem u_ml_RX3_1 : Cond.methodLink RX3 1 objectInit ∈ xU := xU_of 104 (by decide +kernel) (by decide +kernel)
theorem u_cl_RX3_7 : Cond.classLink RX3 7 RX2 ∈ xU := xU_of 105 (by decide +kernel) (by decide +kernel)
theorem u_fl_RX3_10 : Cond.fieldLink RX3 10 "RowsOfSigns$Text" "row" "LRowsOfSigns$Row;" ∈ xU := xU_of 107 (by decide +kernel) (by decide +kernel)
theorem u_fl_RX3_16 : Cond.fieldLink RX3 16 "RowsOfSigns$Text" "missing" "Z" ∈ xU := xU_of 109 (by decide +kernel) (by decide +kernel)
theorem u_im_yX0_init : Cond.instanceMethod yX0_init ∈ xU := xU_of 118 (by decide +kernel) (by decide +kernel)
theorem u_co_yX0_init : Cond.code yX0_init cX0_init 1 none ∈ xU := xU_of 119 (by decide +kernel) (by decide +kernel)
theorem u_ml_RX0_3 : Cond.methodLink RX0 3 objectInit ∈ xU := xU_of 120 (by decide +kernel) (by decide +kernel)
theorem u_cl_RX0_9 : Cond.classLink RX0 9 RX2 ∈ xU := xU_of 121 (by decide +kernel) (by decide +kernel)
theorem u_fl_RX0_12 : Cond.fieldLink RX0 12 "RowsOfSigns$Cutter" "row" "LRowsOfSigns$Row;" ∈ xU := xU_of 123 (by decide +kernel) (by decide +kernel)
theorem u_ac_boolean : Cond.arrayClass .boolean ∈ xU := xU_of 140 (by decide +kernel) (by decide +kernel)
theorem u_fl_RX0_18 : Cond.fieldLink RX0 18 "RowsOfSigns$Cutter" "separators" "[Z" ∈ xU := xU_of 124 (by decide +kernel) (by decide +kernel)
theorem u_fl_RX0_22 : Cond.fieldLink RX0 22 "RowsOfSigns$Cutter" "missing" "Z" ∈ xU := xU_of 126 (by decide +kernel) (by decide +kernel)
theorem u_ml_RX4_48 : Cond.methodLink RX4 48 yX2_add ∈ xU := xU_of 143 (by decide +kernel) (by decide +kernel)
theorem u_im_yX2_add : Cond.instanceMethod yX2_add ∈ xU := xU_of 144 (by decide +kernel) (by decide +kernel)
theorem u_se_yX2_add : Cond.selects RX2 yX2_add yX2_add ∈ xU := xU_of 145 (by decide +kernel) (by decide +kernel)
theorem u_co_yX2_add : Cond.code yX2_add cX2_add 2 none ∈ xU := xU_of 146 (by decide +kernel) (by decide +kernel)
theorem u_fl_RX2_15 : Cond.fieldLink RX2 15 "RowsOfSigns$Row" "size" "I" ∈ xU := xU_of 74 (by decide +kernel) (by decide +kernel)
theorem u_ml_RL_12 : Cond.methodLink RL 12 yX5_init ∈ xU := xU_of 578 (by decide +kernel) (by decide +kernel)
theorem u_im_yX5_init : Cond.instanceMethod yX5_init ∈ xU := xU_of 579 (by decide +kernel) (by decide +kernel)
theorem u_co_yX5_init : Cond.code yX5_init cX5_init 2 none ∈ xU := xU_of 580 (by decide +kernel) (by decide +kernel)
theorem u_ml_RX5_1 : Cond.methodLink RX5 1 objectInit ∈ xU := xU_of 581 (by decide +kernel) (by decide +kernel)
theorem u_fl_RX5_7 : Cond.fieldLink RX5 7 "RowsOfSignsModel" "built" "[I" ∈ xU := xU_of 582 (by decide +kernel) (by decide +kernel)
theorem u_fl_RX5_13 : Cond.fieldLink RX5 13 "RowsOfSignsModel" "builtMany" "[I" ∈ xU := xU_of 583 (by decide +kernel) (by decide +kernel)
theorem u_fl_RX5_16 : Cond.fieldLink RX5 16 "RowsOfSignsModel" "told" "[I" ∈ xU := xU_of 584 (by decide +kernel) (by decide +kernel)
theorem u_fl_RX5_19 : Cond.fieldLink RX5 19 "RowsOfSignsModel" "toldMany" "[I" ∈ xU := xU_of 585 (by decide +kernel) (by decide +kernel)
theorem u_fl_RX5_22 : Cond.fieldLink RX5 22 "RowsOfSignsModel" "row" "[I" ∈ xU := xU_of 586 (by decide +kernel) (by decide +kernel)
theorem u_fl_RX5_25 : Cond.fieldLink RX5 25 "RowsOfSignsModel" "figures" "[I" ∈ xU := xU_of 588 (by decide +kernel) (by decide +kernel)
theorem u_fl_RX5_28 : Cond.fieldLink RX5 28 "RowsOfSignsModel" "partText" "[I" ∈ xU := xU_of 589 (by decide +kernel) (by decide +kernel)
theorem u_fl_RX5_31 : Cond.fieldLink RX5 31 "RowsOfSignsModel" "partFrom" "[I" ∈ xU := xU_of 590 (by decide +kernel) (by decide +kernel)
theorem u_fl_RX5_34 : Cond.fieldLink RX5 34 "RowsOfSignsModel" "partMany" "[I" ∈ xU := xU_of 591 (by decide +kernel) (by decide +kernel)
theorem u_fl_RX5_37 : Cond.fieldLink RX5 37 "RowsOfSignsModel" "cut" "[I" ∈ xU := xU_of 593 (by decide +kernel) (by decide +kernel)
theorem u_fl_RX5_40 : Cond.fieldLink RX5 40 "RowsOfSignsModel" "cutMany" "[I" ∈ xU := xU_of 594 (by decide +kernel) (by decide +kernel)
theorem u_fl_RX5_43 : Cond.fieldLink RX5 43 "RowsOfSignsModel" "isCut" "[I" ∈ xU := xU_of 595 (by decide +kernel) (by decide +kernel)
theorem u_fl_RX5_46 : Cond.fieldLink RX5 46 "RowsOfSignsModel" "cutGives" "[I" ∈ xU := xU_of 596 (by decide +kernel) (by decide +kernel)
theorem u_fl_RX5_49 : Cond.fieldLink RX5 49 "RowsOfSignsModel" "cutAt" "[I" ∈ xU := xU_of 597 (by decide +kernel) (by decide +kernel)
theorem u_ml_RL_13 : Cond.methodLink RL 13 yX4_sign ∈ xU := xU_of 166 (by decide +kernel) (by decide +kernel)
theorem u_im_yX4_sign : Cond.instanceMethod yX4_sign ∈ xU := xU_of 167 (by decide +kernel) (by decide +kernel)
theorem u_se_yX4_sign : Cond.selects RX4 yX4_sign yX4_sign ∈ xU := xU_of 168 (by decide +kernel) (by decide +kernel)
theorem u_co_yX4_sign : Cond.code yX4_sign cX4_sign 4 (some .int) ∈ xU := xU_of 169 (by decide +kernel) (by decide +kernel)
theorem u_ml_RX4_52 : Cond.methodLink RX4 52 yX4_builderOf ∈ xU := xU_of 170 (by decide +kernel) (by decide +kernel)
theorem u_im_yX4_builderOf : Cond.instanceMethod yX4_builderOf ∈ xU := xU_of 172 (by decide +kernel) (by decide +kernel)
theorem u_se_yX4_builderOf : Cond.selects RX4 yX4_builderOf yX4_builderOf ∈ xU := xU_of 0 (by decide +kernel) (by decide +kernel)
theorem u_co_yX4_builderOf : Cond.code yX4_builderOf cX4_builderOf 2 (some (.object "RowsOfSigns$Row")) ∈ xU := xU_of 173 (by decide +kernel) (by decide +kernel)
theorem u_ml_RX4_56 : Cond.methodLink RX4 56 yX4_isSign ∈ xU := xU_of 174 (by decide +kernel) (by decide +kernel)
theorem u_st_yX4_isSign : Cond.static yX4_isSign ∈ xU := xU_of 175 (by decide +kernel) (by decide +kernel)
theorem u_co_yX4_isSign : Cond.code yX4_isSign cX4_isSign 1 (some .boolean) ∈ xU := xU_of 176 (by decide +kernel) (by decide +kernel)
theorem u_ml_RX4_64 : Cond.methodLink RX4 64 yX4_single ∈ xU := xU_of 177 (by decide +kernel) (by decide +kernel)
theorem u_im_yX4_single : Cond.instanceMethod yX4_single ∈ xU := xU_of 179 (by decide +kernel) (by decide +kernel)
theorem u_se_yX4_single : Cond.selects RX4 yX4_single yX4_single ∈ xU := xU_of 1 (by decide +kernel) (by decide +kernel)
theorem u_co_yX4_single : Cond.code yX4_single cX4_single 2 (some (.object "RowsOfSigns$Row")) ∈ xU := xU_of 180 (by decide +kernel) (by decide +kernel)
theorem u_ml_RX4_235 : Cond.methodLink RX4 235 yX2_clear ∈ xU := xU_of 181 (by decide +kernel) (by decide +kernel)
theorem u_im_yX2_clear : Cond.instanceMethod yX2_clear ∈ xU := xU_of 182 (by decide +kernel) (by decide +kernel)
theorem u_se_yX2_clear : Cond.selects RX2 yX2_clear yX2_clear ∈ xU := xU_of 183 (by decide +kernel) (by decide +kernel)
theorem u_co_yX2_clear : Cond.code yX2_clear cX2_clear 1 none ∈ xU := xU_of 184 (by decide +kernel) (by decide +kernel)
theorem u_ml_RX4_67 : Cond.methodLink RX4 67 yX2_joinIn ∈ xU := xU_of 185 (by decide +kernel) (by decide +kernel)
theorem u_im_yX2_joinIn : Cond.instanceMethod yX2_joinIn ∈ xU := xU_of 186 (by decide +kernel) (by decide +kernel)
theorem u_se_yX2_joinIn : Cond.selects RX2 yX2_joinIn yX2_joinIn ∈ xU := xU_of 187 (by decide +kernel) (by decide +kernel)
theorem u_co_yX2_joinIn : Cond.code yX2_joinIn cX2_joinIn 3 (some .int) ∈ xU := xU_of 188 (by decide +kernel) (by decide +kernel)
theorem u_ml_RX2_45 : Cond.methodLink RX2 45 yX2_change ∈ xU := xU_of 189 (by decide +kernel) (by decide +kernel)
theorem u_im_yX2_change : Cond.instanceMethod yX2_change ∈ xU := xU_of 190 (by decide +kernel) (by decide +kernel)
theorem u_se_yX2_change : Cond.selects RX2 yX2_change yX2_change ∈ xU := xU_of 191 (by decide +kernel) (by decide +kernel)
theorem u_co_yX2_change : Cond.code yX2_change cX2_change 8 (some .int) ∈ xU := xU_of 192 (by decide +kernel) (by decide +kernel)
theorem u_ml_RX2_39 : Cond.methodLink RX2 39 arraycopyName ∈ xU := xU_of 197 (by decide +kernel) (by decide +kernel)
theorem u_na_arraycopyName : Cond.native arraycopyName ∈ xU := xU_of 199 (by decide +kernel) (by decide +kernel)
theorem u_st_arraycopyName : Cond.static arraycopyName ∈ xU := xU_of 198 (by decide +kernel) (by decide +kernel)
theorem u_in_RJ10 : Cond.initialized "java/lang/System" ∈ xU := xU_of 44 (by decide +kernel) (by decide +kernel)
theorem u_ml_RX2_35 : Cond.methodLink RX2 35 yX2_spans ∈ xU := xU_of 193 (by decide +kernel) (by decide +kernel)
theorem u_im_yX2_spans : Cond.instanceMethod yX2_spans ∈ xU := xU_of 194 (by decide +kernel) (by decide +kernel)
theorem u_se_yX2_spans : Cond.selects RX2 yX2_spans yX2_spans ∈ xU := xU_of 195 (by decide +kernel) (by decide +kernel)
theorem u_co_yX2_spans : Cond.code yX2_spans cX2_spans 3 (some .boolean) ∈ xU := xU_of 196 (by decide +kernel) (by decide +kernel)
theorem u_ml_RL_17 : Cond.methodLink RL 17 yX5_sign ∈ xU := xU_of 634 (by decide +kernel) (by decide +kernel)
theorem u_im_yX5_sign : Cond.instanceMethod yX5_sign ∈ xU := xU_of 635 (by decide +kernel) (by decide +kernel)
theorem u_se_yX5_sign : Cond.selects RX5 yX5_sign yX5_sign ∈ xU := xU_of 636 (by decide +kernel) (by decide +kernel)
theorem u_co_yX5_sign : Cond.code yX5_sign cX5_sign 3 (some .int) ∈ xU := xU_of 637 (by decide +kernel) (by decide +kernel)
theorem u_ml_RX5_70 : Cond.methodLink RX5 70 yX5_isBuilder ∈ xU := xU_of 638 (by decide +kernel) (by decide +kernel)
theorem u_st_yX5_isBuilder : Cond.static yX5_isBuilder ∈ xU := xU_of 639 (by decide +kernel) (by decide +kernel)
theorem u_co_yX5_isBuilder : Cond.code yX5_isBuilder cX5_isBuilder 1 (some .boolean) ∈ xU := xU_of 640 (by decide +kernel) (by decide +kernel)
theorem u_ko_RX5_52 : Cond.constantLong RX5 52 (3) ∈ xU := xU_of 641 (by decide +kernel) (by decide +kernel)
theorem u_ml_RX5_54 : Cond.methodLink RX5 54 yX5_in ∈ xU := xU_of 642 (by decide +kernel) (by decide +kernel)
theorem u_st_yX5_in : Cond.static yX5_in ∈ xU := xU_of 643 (by decide +kernel) (by decide +kernel)
theorem u_co_yX5_in : Cond.code yX5_in cX5_in 6 (some .boolean) ∈ xU := xU_of 644 (by decide +kernel) (by decide +kernel)
theorem u_ml_RX5_74 : Cond.methodLink RX5 74 yX5_isSign ∈ xU := xU_of 645 (by decide +kernel) (by decide +kernel)
theorem u_st_yX5_isSign : Cond.static yX5_isSign ∈ xU := xU_of 646 (by decide +kernel) (by decide +kernel)
theorem u_co_yX5_isSign : Cond.code yX5_isSign cX5_isSign 1 (some .boolean) ∈ xU := xU_of 647 (by decide +kernel) (by decide +kernel)
theorem u_ko_RX5_60 : Cond.constantLong RX5 60 (255) ∈ xU := xU_of 648 (by decide +kernel) (by decide +kernel)
theorem u_ml_RX5_77 : Cond.methodLink RX5 77 yX5_laySign ∈ xU := xU_of 649 (by decide +kernel) (by decide +kernel)
theorem u_im_yX5_laySign : Cond.instanceMethod yX5_laySign ∈ xU := xU_of 651 (by decide +kernel) (by decide +kernel)
theorem u_se_yX5_laySign : Cond.selects RX5 yX5_laySign yX5_laySign ∈ xU := xU_of 14 (by decide +kernel) (by decide +kernel)
theorem u_co_yX5_laySign : Cond.code yX5_laySign cX5_laySign 2 none ∈ xU := xU_of 652 (by decide +kernel) (by decide +kernel)
theorem u_fl_RX5_62 : Cond.fieldLink RX5 62 "RowsOfSignsModel" "rowMany" "I" ∈ xU := xU_of 587 (by decide +kernel) (by decide +kernel)
theorem u_ml_RX5_81 : Cond.methodLink RX5 81 yX5_append ∈ xU := xU_of 653 (by decide +kernel) (by decide +kernel)
theorem u_im_yX5_append : Cond.instanceMethod yX5_append ∈ xU := xU_of 655 (by decide +kernel) (by decide +kernel)
theorem u_se_yX5_append : Cond.selects RX5 yX5_append yX5_append ∈ xU := xU_of 15 (by decide +kernel) (by decide +kernel)
theorem u_co_yX5_append : Cond.code yX5_append cX5_append 2 (some .int) ∈ xU := xU_of 656 (by decide +kernel) (by decide +kernel)
theorem u_ml_RX5_66 : Cond.methodLink RX5 66 yX5_edit ∈ xU := xU_of 657 (by decide +kernel) (by decide +kernel)
theorem u_im_yX5_edit : Cond.instanceMethod yX5_edit ∈ xU := xU_of 659 (by decide +kernel) (by decide +kernel)
theorem u_se_yX5_edit : Cond.selects RX5 yX5_edit yX5_edit ∈ xU := xU_of 16 (by decide +kernel) (by decide +kernel)
theorem u_co_yX5_edit : Cond.code yX5_edit cX5_edit 8 (some .int) ∈ xU := xU_of 660 (by decide +kernel) (by decide +kernel)
theorem u_ml_RL_20 : Cond.methodLink RL 20 yX4_signs ∈ xU := xU_of 200 (by decide +kernel) (by decide +kernel)
theorem u_im_yX4_signs : Cond.instanceMethod yX4_signs ∈ xU := xU_of 201 (by decide +kernel) (by decide +kernel)
theorem u_se_yX4_signs : Cond.selects RX4 yX4_signs yX4_signs ∈ xU := xU_of 202 (by decide +kernel) (by decide +kernel)
theorem u_co_yX4_signs : Cond.code yX4_signs cX4_signs 6 (some .int) ∈ xU := xU_of 203 (by decide +kernel) (by decide +kernel)
theorem u_ml_RX4_71 : Cond.methodLink RX4 71 yX4_lowBytes ∈ xU := xU_of 204 (by decide +kernel) (by decide +kernel)
theorem u_im_yX4_lowBytes : Cond.instanceMethod yX4_lowBytes ∈ xU := xU_of 206 (by decide +kernel) (by decide +kernel)
theorem u_se_yX4_lowBytes : Cond.selects RX4 yX4_lowBytes yX4_lowBytes ∈ xU := xU_of 2 (by decide +kernel) (by decide +kernel)
theorem u_co_yX4_lowBytes : Cond.code yX4_lowBytes cX4_lowBytes 5 (some (.object "RowsOfSigns$Row")) ∈ xU := xU_of 207 (by decide +kernel) (by decide +kernel)
theorem u_ml_RL_24 : Cond.methodLink RL 24 yX5_signs ∈ xU := xU_of 661 (by decide +kernel) (by decide +kernel)
theorem u_im_yX5_signs : Cond.instanceMethod yX5_signs ∈ xU := xU_of 662 (by decide +kernel) (by decide +kernel)
theorem u_se_yX5_signs : Cond.selects RX5 yX5_signs yX5_signs ∈ xU := xU_of 663 (by decide +kernel) (by decide +kernel)
theorem u_co_yX5_signs : Cond.code yX5_signs cX5_signs 6 (some .int) ∈ xU := xU_of 664 (by decide +kernel) (by decide +kernel)
theorem u_ko_RX5_85 : Cond.constantLong RX5 85 (8) ∈ xU := xU_of 665 (by decide +kernel) (by decide +kernel)
theorem u_ml_RL_25 : Cond.methodLink RL 25 yX4_text ∈ xU := xU_of 208 (by decide +kernel) (by decide +kernel)
theorem u_im_yX4_text : Cond.instanceMethod yX4_text ∈ xU := xU_of 209 (by decide +kernel) (by decide +kernel)
theorem u_se_yX4_text : Cond.selects RX4 yX4_text yX4_text ∈ xU := xU_of 210 (by decide +kernel) (by decide +kernel)
theorem u_co_yX4_text : Cond.code yX4_text cX4_text 5 (some .int) ∈ xU := xU_of 211 (by decide +kernel) (by decide +kernel)
theorem u_ml_RX4_75 : Cond.methodLink RX4 75 yX4_textOrFour ∈ xU := xU_of 212 (by decide +kernel) (by decide +kernel)
theorem u_im_yX4_textOrFour : Cond.instanceMethod yX4_textOrFour ∈ xU := xU_of 214 (by decide +kernel) (by decide +kernel)
theorem u_se_yX4_textOrFour : Cond.selects RX4 yX4_textOrFour yX4_textOrFour ∈ xU := xU_of 3 (by decide +kernel) (by decide +kernel)
theorem u_co_yX4_textOrFour : Cond.code yX4_textOrFour cX4_textOrFour 3 (some (.object "RowsOfSigns$Row")) ∈ xU := xU_of 215 (by decide +kernel) (by decide +kernel)
theorem u_ml_RX4_97 : Cond.methodLink RX4 97 yX4_textOf ∈ xU := xU_of 216 (by decide +kernel) (by decide +kernel)
theorem u_im_yX4_textOf : Cond.instanceMethod yX4_textOf ∈ xU := xU_of 218 (by decide +kernel) (by decide +kernel)
theorem u_se_yX4_textOf : Cond.selects RX4 yX4_textOf yX4_textOf ∈ xU := xU_of 4 (by decide +kernel) (by decide +kernel)
theorem u_co_yX4_textOf : Cond.code yX4_textOf cX4_textOf 2 (some (.object "RowsOfSigns$Text")) ∈ xU := xU_of 219 (by decide +kernel) (by decide +kernel)
theorem u_ml_RL_28 : Cond.methodLink RL 28 yX5_text ∈ xU := xU_of 666 (by decide +kernel) (by decide +kernel)
theorem u_im_yX5_text : Cond.instanceMethod yX5_text ∈ xU := xU_of 667 (by decide +kernel) (by decide +kernel)
theorem u_se_yX5_text : Cond.selects RX5 yX5_text yX5_text ∈ xU := xU_of 668 (by decide +kernel) (by decide +kernel)
theorem u_co_yX5_text : Cond.code yX5_text cX5_text 3 (some .int) ∈ xU := xU_of 669 (by decide +kernel) (by decide +kernel)
theorem u_ml_RX5_87 : Cond.methodLink RX5 87 yX5_isText ∈ xU := xU_of 670 (by decide +kernel) (by decide +kernel)
theorem u_st_yX5_isText : Cond.static yX5_isText ∈ xU := xU_of 671 (by decide +kernel) (by decide +kernel)
theorem u_co_yX5_isText : Cond.code yX5_isText cX5_isText 1 (some .boolean) ∈ xU := xU_of 672 (by decide +kernel) (by decide +kernel)
theorem u_ko_RX5_58 : Cond.constantLong RX5 58 (7) ∈ xU := xU_of 673 (by decide +kernel) (by decide +kernel)
theorem u_ml_RX5_90 : Cond.methodLink RX5 90 yX5_layText ∈ xU := xU_of 674 (by decide +kernel) (by decide +kernel)
theorem u_im_yX5_layText : Cond.instanceMethod yX5_layText ∈ xU := xU_of 676 (by decide +kernel) (by decide +kernel)
theorem u_se_yX5_layText : Cond.selects RX5 yX5_layText yX5_layText ∈ xU := xU_of 17 (by decide +kernel) (by decide +kernel)
theorem u_co_yX5_layText : Cond.code yX5_layText cX5_layText 3 none ∈ xU := xU_of 677 (by decide +kernel) (by decide +kernel)
theorem u_ml_RL_29 : Cond.methodLink RL 29 yX4_part ∈ xU := xU_of 220 (by decide +kernel) (by decide +kernel)
theorem u_im_yX4_part : Cond.instanceMethod yX4_part ∈ xU := xU_of 221 (by decide +kernel) (by decide +kernel)
theorem u_se_yX4_part : Cond.selects RX4 yX4_part yX4_part ∈ xU := xU_of 222 (by decide +kernel) (by decide +kernel)
theorem u_co_yX4_part : Cond.code yX4_part cX4_part 7 (some .int) ∈ xU := xU_of 223 (by decide +kernel) (by decide +kernel)
theorem u_ml_RX4_78 : Cond.methodLink RX4 78 yX2_change ∈ xU := xU_of 224 (by decide +kernel) (by decide +kernel)
theorem u_ml_RL_33 : Cond.methodLink RL 33 yX5_part ∈ xU := xU_of 678 (by decide +kernel) (by decide +kernel)
theorem u_im_yX5_part : Cond.instanceMethod yX5_part ∈ xU := xU_of 679 (by decide +kernel) (by decide +kernel)
theorem u_se_yX5_part : Cond.selects RX5 yX5_part yX5_part ∈ xU := xU_of 680 (by decide +kernel) (by decide +kernel)
theorem u_co_yX5_part : Cond.code yX5_part cX5_part 5 (some .int) ∈ xU := xU_of 681 (by decide +kernel) (by decide +kernel)
theorem u_ml_RX5_93 : Cond.methodLink RX5 93 yX5_clip ∈ xU := xU_of 682 (by decide +kernel) (by decide +kernel)
theorem u_im_yX5_clip : Cond.instanceMethod yX5_clip ∈ xU := xU_of 684 (by decide +kernel) (by decide +kernel)
theorem u_se_yX5_clip : Cond.selects RX5 yX5_clip yX5_clip ∈ xU := xU_of 18 (by decide +kernel) (by decide +kernel)
theorem u_co_yX5_clip : Cond.code yX5_clip cX5_clip 4 none ∈ xU := xU_of 685 (by decide +kernel) (by decide +kernel)
theorem u_ml_RL_34 : Cond.methodLink RL 34 yX4_number ∈ xU := xU_of 225 (by decide +kernel) (by decide +kernel)
theorem u_im_yX4_number : Cond.instanceMethod yX4_number ∈ xU := xU_of 226 (by decide +kernel) (by decide +kernel)
theorem u_se_yX4_number : Cond.selects RX4 yX4_number yX4_number ∈ xU := xU_of 227 (by decide +kernel) (by decide +kernel)
theorem u_co_yX4_number : Cond.code yX4_number cX4_number 5 (some .int) ∈ xU := xU_of 228 (by decide +kernel) (by decide +kernel)
theorem u_ml_RX4_82 : Cond.methodLink RX4 82 yX4_figures ∈ xU := xU_of 229 (by decide +kernel) (by decide +kernel)
theorem u_im_yX4_figures : Cond.instanceMethod yX4_figures ∈ xU := xU_of 231 (by decide +kernel) (by decide +kernel)
theorem u_se_yX4_figures : Cond.selects RX4 yX4_figures yX4_figures ∈ xU := xU_of 5 (by decide +kernel) (by decide +kernel)
theorem u_co_yX4_figures : Cond.code yX4_figures cX4_figures 6 (some (.object "RowsOfSigns$Row")) ∈ xU := xU_of 232 (by decide +kernel) (by decide +kernel)
theorem u_ko_RX4_238 : Cond.constantLong RX4 238 (10) ∈ xU := xU_of 233 (by decide +kernel) (by decide +kernel)
theorem u_ml_RX4_240 : Cond.methodLink RX4 240 Lib.Math.abs.name ∈ xU := xU_of 234 (by decide +kernel) (by decide +kernel)
theorem u_st_yJ9_abs_0f7a4 : Cond.static Lib.Math.abs.name ∈ xU := xU_of 235 (by decide +kernel) (by decide +kernel)
theorem u_in_RJ9 : Cond.initialized "java/lang/Math" ∈ xU := xU_of 45 (by decide +kernel) (by decide +kernel)
theorem u_co_yJ9_abs_0f7a4 : Cond.code Lib.Math.abs.name Lib.Math.abs.code 1 (some .int) ∈ xU := xU_of 236 (by decide +kernel) (by decide +kernel)
theorem u_ml_RX4_108 : Cond.methodLink RX4 108 yX2_turnRound ∈ xU := xU_of 237 (by decide +kernel) (by decide +kernel)
theorem u_im_yX2_turnRound : Cond.instanceMethod yX2_turnRound ∈ xU := xU_of 238 (by decide +kernel) (by decide +kernel)
theorem u_se_yX2_turnRound : Cond.selects RX2 yX2_turnRound yX2_turnRound ∈ xU := xU_of 239 (by decide +kernel) (by decide +kernel)
theorem u_co_yX2_turnRound : Cond.code yX2_turnRound cX2_turnRound 4 none ∈ xU := xU_of 240 (by decide +kernel) (by decide +kernel)
theorem u_ml_RX2_23 : Cond.methodLink RX2 23 yX2_signThere ∈ xU := xU_of 241 (by decide +kernel) (by decide +kernel)
theorem u_im_yX2_signThere : Cond.instanceMethod yX2_signThere ∈ xU := xU_of 242 (by decide +kernel) (by decide +kernel)
theorem u_se_yX2_signThere : Cond.selects RX2 yX2_signThere yX2_signThere ∈ xU := xU_of 243 (by decide +kernel) (by decide +kernel)
theorem u_co_yX2_signThere : Cond.code yX2_signThere cX2_signThere 2 (some .int) ∈ xU := xU_of 244 (by decide +kernel) (by decide +kernel)
theorem u_ml_RX2_19 : Cond.methodLink RX2 19 yX2_holds ∈ xU := xU_of 245 (by decide +kernel) (by decide +kernel)
theorem u_im_yX2_holds : Cond.instanceMethod yX2_holds ∈ xU := xU_of 246 (by decide +kernel) (by decide +kernel)
theorem u_se_yX2_holds : Cond.selects RX2 yX2_holds yX2_holds ∈ xU := xU_of 247 (by decide +kernel) (by decide +kernel)
theorem u_co_yX2_holds : Cond.code yX2_holds cX2_holds 2 (some .boolean) ∈ xU := xU_of 248 (by decide +kernel) (by decide +kernel)
theorem u_ml_RX2_27 : Cond.methodLink RX2 27 yX2_write ∈ xU := xU_of 249 (by decide +kernel) (by decide +kernel)
theorem u_im_yX2_write : Cond.instanceMethod yX2_write ∈ xU := xU_of 250 (by decide +kernel) (by decide +kernel)
theorem u_se_yX2_write : Cond.selects RX2 yX2_write yX2_write ∈ xU := xU_of 251 (by decide +kernel) (by decide +kernel)
theorem u_co_yX2_write : Cond.code yX2_write cX2_write 3 none ∈ xU := xU_of 252 (by decide +kernel) (by decide +kernel)
theorem u_ml_RL_38 : Cond.methodLink RL 38 yX5_number ∈ xU := xU_of 686 (by decide +kernel) (by decide +kernel)
theorem u_im_yX5_number : Cond.instanceMethod yX5_number ∈ xU := xU_of 687 (by decide +kernel) (by decide +kernel)
theorem u_se_yX5_number : Cond.selects RX5 yX5_number yX5_number ∈ xU := xU_of 688 (by decide +kernel) (by decide +kernel)
theorem u_co_yX5_number : Cond.code yX5_number cX5_number 8 (some .int) ∈ xU := xU_of 689 (by decide +kernel) (by decide +kernel)
theorem u_ko_RX5_97 : Cond.constantLong RX5 97 (10) ∈ xU := xU_of 690 (by decide +kernel) (by decide +kernel)
theorem u_ml_RL_39 : Cond.methodLink RL 39 yX4_insert ∈ xU := xU_of 253 (by decide +kernel) (by decide +kernel)
theorem u_im_yX4_insert : Cond.instanceMethod yX4_insert ∈ xU := xU_of 254 (by decide +kernel) (by decide +kernel)
theorem u_se_yX4_insert : Cond.selects RX4 yX4_insert yX4_insert ∈ xU := xU_of 255 (by decide +kernel) (by decide +kernel)
theorem u_co_yX4_insert : Cond.code yX4_insert cX4_insert 6 (some .int) ∈ xU := xU_of 256 (by decide +kernel) (by decide +kernel)
theorem u_ml_RL_43 : Cond.methodLink RL 43 yX5_insert ∈ xU := xU_of 691 (by decide +kernel) (by decide +kernel)
theorem u_im_yX5_insert : Cond.instanceMethod yX5_insert ∈ xU := xU_of 692 (by decide +kernel) (by decide +kernel)
theorem u_se_yX5_insert : Cond.selects RX5 yX5_insert yX5_insert ∈ xU := xU_of 693 (by decide +kernel) (by decide +kernel)
theorem u_co_yX5_insert : Cond.code yX5_insert cX5_insert 4 (some .int) ∈ xU := xU_of 694 (by decide +kernel) (by decide +kernel)
theorem u_ml_RL_44 : Cond.methodLink RL 44 yX4_insertPart ∈ xU := xU_of 257 (by decide +kernel) (by decide +kernel)
theorem u_im_yX4_insertPart : Cond.instanceMethod yX4_insertPart ∈ xU := xU_of 258 (by decide +kernel) (by decide +kernel)
theorem u_se_yX4_insertPart : Cond.selects RX4 yX4_insertPart yX4_insertPart ∈ xU := xU_of 259 (by decide +kernel) (by decide +kernel)
theorem u_co_yX4_insertPart : Cond.code yX4_insertPart cX4_insertPart 8 (some .int) ∈ xU := xU_of 260 (by decide +kernel) (by decide +kernel)
theorem u_ml_RL_48 : Cond.methodLink RL 48 yX5_insertPart ∈ xU := xU_of 695 (by decide +kernel) (by decide +kernel)
theorem u_im_yX5_insertPart : Cond.instanceMethod yX5_insertPart ∈ xU := xU_of 696 (by decide +kernel) (by decide +kernel)
theorem u_se_yX5_insertPart : Cond.selects RX5 yX5_insertPart yX5_insertPart ∈ xU := xU_of 697 (by decide +kernel) (by decide +kernel)
theorem u_co_yX5_insertPart : Cond.code yX5_insertPart cX5_insertPart 6 (some .int) ∈ xU := xU_of 698 (by decide +kernel) (by decide +kernel)
theorem u_ml_RL_49 : Cond.methodLink RL 49 yX4_insertSign ∈ xU := xU_of 261 (by decide +kernel) (by decide +kernel)
theorem u_im_yX4_insertSign : Cond.instanceMethod yX4_insertSign ∈ xU := xU_of 262 (by decide +kernel) (by decide +kernel)
theorem u_se_yX4_insertSign : Cond.selects RX4 yX4_insertSign yX4_insertSign ∈ xU := xU_of 263 (by decide +kernel) (by decide +kernel)
theorem u_co_yX4_insertSign : Cond.code yX4_insertSign cX4_insertSign 5 (some .int) ∈ xU := xU_of 264 (by decide +kernel) (by decide +kernel)
theorem u_ml_RL_52 : Cond.methodLink RL 52 yX5_insertSign ∈ xU := xU_of 699 (by decide +kernel) (by decide +kernel)
theorem u_im_yX5_insertSign : Cond.instanceMethod yX5_insertSign ∈ xU := xU_of 700 (by decide +kernel) (by decide +kernel)
theorem u_se_yX5_insertSign : Cond.selects RX5 yX5_insertSign yX5_insertSign ∈ xU := xU_of 701 (by decide +kernel) (by decide +kernel)
theorem u_co_yX5_insertSign : Cond.code yX5_insertSign cX5_insertSign 4 (some .int) ∈ xU := xU_of 702 (by decide +kernel) (by decide +kernel)
theorem u_ml_RL_53 : Cond.methodLink RL 53 yX4_delete ∈ xU := xU_of 265 (by decide +kernel) (by decide +kernel)
theorem u_im_yX4_delete : Cond.instanceMethod yX4_delete ∈ xU := xU_of 266 (by decide +kernel) (by decide +kernel)
theorem u_se_yX4_delete : Cond.selects RX4 yX4_delete yX4_delete ∈ xU := xU_of 267 (by decide +kernel) (by decide +kernel)
theorem u_co_yX4_delete : Cond.code yX4_delete cX4_delete 5 (some .int) ∈ xU := xU_of 268 (by decide +kernel) (by decide +kernel)
theorem u_ml_RX4_86 : Cond.methodLink RX4 86 yX4_nothing ∈ xU := xU_of 269 (by decide +kernel) (by decide +kernel)
theorem u_im_yX4_nothing : Cond.instanceMethod yX4_nothing ∈ xU := xU_of 271 (by decide +kernel) (by decide +kernel)
theorem u_se_yX4_nothing : Cond.selects RX4 yX4_nothing yX4_nothing ∈ xU := xU_of 6 (by decide +kernel) (by decide +kernel)
theorem u_co_yX4_nothing : Cond.code yX4_nothing cX4_nothing 1 (some (.object "RowsOfSigns$Row")) ∈ xU := xU_of 272 (by decide +kernel) (by decide +kernel)
theorem u_ml_RX4_90 : Cond.methodLink RX4 90 yX2_exchange ∈ xU := xU_of 273 (by decide +kernel) (by decide +kernel)
theorem u_im_yX2_exchange : Cond.instanceMethod yX2_exchange ∈ xU := xU_of 274 (by decide +kernel) (by decide +kernel)
theorem u_se_yX2_exchange : Cond.selects RX2 yX2_exchange yX2_exchange ∈ xU := xU_of 275 (by decide +kernel) (by decide +kernel)
theorem u_co_yX2_exchange : Cond.code yX2_exchange cX2_exchange 4 (some .int) ∈ xU := xU_of 276 (by decide +kernel) (by decide +kernel)
theorem u_ml_RX2_49 : Cond.methodLink RX2 49 Lib.Math.min.name ∈ xU := xU_of 277 (by decide +kernel) (by decide +kernel)
theorem u_st_yJ9_min_7cf53 : Cond.static Lib.Math.min.name ∈ xU := xU_of 278 (by decide +kernel) (by decide +kernel)
theorem u_co_yJ9_min_7cf53 : Cond.code Lib.Math.min.name Lib.Math.min.code 2 (some .int) ∈ xU := xU_of 279 (by decide +kernel) (by decide +kernel)
theorem u_ml_RL_56 : Cond.methodLink RL 56 yX5_delete ∈ xU := xU_of 703 (by decide +kernel) (by decide +kernel)
theorem u_im_yX5_delete : Cond.instanceMethod yX5_delete ∈ xU := xU_of 704 (by decide +kernel) (by decide +kernel)
theorem u_se_yX5_delete : Cond.selects RX5 yX5_delete yX5_delete ∈ xU := xU_of 705 (by decide +kernel) (by decide +kernel)
theorem u_co_yX5_delete : Cond.code yX5_delete cX5_delete 4 (some .int) ∈ xU := xU_of 706 (by decide +kernel) (by decide +kernel)
theorem u_ml_RX5_99 : Cond.methodLink RX5 99 yX5_canDrop ∈ xU := xU_of 707 (by decide +kernel) (by decide +kernel)
theorem u_im_yX5_canDrop : Cond.instanceMethod yX5_canDrop ∈ xU := xU_of 709 (by decide +kernel) (by decide +kernel)
theorem u_se_yX5_canDrop : Cond.selects RX5 yX5_canDrop yX5_canDrop ∈ xU := xU_of 19 (by decide +kernel) (by decide +kernel)
theorem u_co_yX5_canDrop : Cond.code yX5_canDrop cX5_canDrop 4 (some .boolean) ∈ xU := xU_of 710 (by decide +kernel) (by decide +kernel)
theorem u_ml_RX5_103 : Cond.methodLink RX5 103 yX5_endOf ∈ xU := xU_of 711 (by decide +kernel) (by decide +kernel)
theorem u_im_yX5_endOf : Cond.instanceMethod yX5_endOf ∈ xU := xU_of 713 (by decide +kernel) (by decide +kernel)
theorem u_se_yX5_endOf : Cond.selects RX5 yX5_endOf yX5_endOf ∈ xU := xU_of 20 (by decide +kernel) (by decide +kernel)
theorem u_co_yX5_endOf : Cond.code yX5_endOf cX5_endOf 3 (some .int) ∈ xU := xU_of 714 (by decide +kernel) (by decide +kernel)
theorem u_ml_RL_57 : Cond.methodLink RL 57 yX4_deleteAt ∈ xU := xU_of 280 (by decide +kernel) (by decide +kernel)
theorem u_im_yX4_deleteAt : Cond.instanceMethod yX4_deleteAt ∈ xU := xU_of 281 (by decide +kernel) (by decide +kernel)
theorem u_se_yX4_deleteAt : Cond.selects RX4 yX4_deleteAt yX4_deleteAt ∈ xU := xU_of 282 (by decide +kernel) (by decide +kernel)
theorem u_co_yX4_deleteAt : Cond.code yX4_deleteAt cX4_deleteAt 4 (some .int) ∈ xU := xU_of 283 (by decide +kernel) (by decide +kernel)
theorem u_ml_RX4_94 : Cond.methodLink RX4 94 yX2_holds ∈ xU := xU_of 284 (by decide +kernel) (by decide +kernel)
theorem u_ml_RL_60 : Cond.methodLink RL 60 yX5_deleteAt ∈ xU := xU_of 715 (by decide +kernel) (by decide +kernel)
theorem u_im_yX5_deleteAt : Cond.instanceMethod yX5_deleteAt ∈ xU := xU_of 716 (by decide +kernel) (by decide +kernel)
theorem u_se_yX5_deleteAt : Cond.selects RX5 yX5_deleteAt yX5_deleteAt ∈ xU := xU_of 717 (by decide +kernel) (by decide +kernel)
theorem u_co_yX5_deleteAt : Cond.code yX5_deleteAt cX5_deleteAt 3 (some .int) ∈ xU := xU_of 718 (by decide +kernel) (by decide +kernel)
theorem u_ml_RL_61 : Cond.methodLink RL 61 yX4_replace ∈ xU := xU_of 285 (by decide +kernel) (by decide +kernel)
theorem u_im_yX4_replace : Cond.instanceMethod yX4_replace ∈ xU := xU_of 286 (by decide +kernel) (by decide +kernel)
theorem u_se_yX4_replace : Cond.selects RX4 yX4_replace yX4_replace ∈ xU := xU_of 287 (by decide +kernel) (by decide +kernel)
theorem u_co_yX4_replace : Cond.code yX4_replace cX4_replace 7 (some .int) ∈ xU := xU_of 288 (by decide +kernel) (by decide +kernel)
theorem u_ml_RL_64 : Cond.methodLink RL 64 yX5_replace ∈ xU := xU_of 719 (by decide +kernel) (by decide +kernel)
theorem u_im_yX5_replace : Cond.instanceMethod yX5_replace ∈ xU := xU_of 720 (by decide +kernel) (by decide +kernel)
theorem u_se_yX5_replace : Cond.selects RX5 yX5_replace yX5_replace ∈ xU := xU_of 721 (by decide +kernel) (by decide +kernel)
theorem u_co_yX5_replace : Cond.code yX5_replace cX5_replace 5 (some .int) ∈ xU := xU_of 722 (by decide +kernel) (by decide +kernel)
theorem u_ml_RL_65 : Cond.methodLink RL 65 yX4_reverse ∈ xU := xU_of 289 (by decide +kernel) (by decide +kernel)
theorem u_im_yX4_reverse : Cond.instanceMethod yX4_reverse ∈ xU := xU_of 290 (by decide +kernel) (by decide +kernel)
theorem u_se_yX4_reverse : Cond.selects RX4 yX4_reverse yX4_reverse ∈ xU := xU_of 291 (by decide +kernel) (by decide +kernel)
theorem u_co_yX4_reverse : Cond.code yX4_reverse cX4_reverse 3 (some .int) ∈ xU := xU_of 292 (by decide +kernel) (by decide +kernel)
theorem u_ml_RL_69 : Cond.methodLink RL 69 yX5_reverse ∈ xU := xU_of 723 (by decide +kernel) (by decide +kernel)
theorem u_im_yX5_reverse : Cond.instanceMethod yX5_reverse ∈ xU := xU_of 724 (by decide +kernel) (by decide +kernel)
theorem u_se_yX5_reverse : Cond.selects RX5 yX5_reverse yX5_reverse ∈ xU := xU_of 725 (by decide +kernel) (by decide +kernel)
theorem u_co_yX5_reverse : Cond.code yX5_reverse cX5_reverse 4 (some .int) ∈ xU := xU_of 726 (by decide +kernel) (by decide +kernel)
theorem u_ml_RL_70 : Cond.methodLink RL 70 yX4_put ∈ xU := xU_of 293 (by decide +kernel) (by decide +kernel)
theorem u_im_yX4_put : Cond.instanceMethod yX4_put ∈ xU := xU_of 294 (by decide +kernel) (by decide +kernel)
theorem u_se_yX4_put : Cond.selects RX4 yX4_put yX4_put ∈ xU := xU_of 295 (by decide +kernel) (by decide +kernel)
theorem u_co_yX4_put : Cond.code yX4_put cX4_put 6 (some .int) ∈ xU := xU_of 296 (by decide +kernel) (by decide +kernel)
theorem u_ml_RX4_111 : Cond.methodLink RX4 111 yX2_signThere ∈ xU := xU_of 297 (by decide +kernel) (by decide +kernel)
theorem u_ml_RX4_115 : Cond.methodLink RX4 115 yX2_write ∈ xU := xU_of 298 (by decide +kernel) (by decide +kernel)
theorem u_ml_RL_73 : Cond.methodLink RL 73 yX5_put ∈ xU := xU_of 727 (by decide +kernel) (by decide +kernel)
theorem u_im_yX5_put : Cond.instanceMethod yX5_put ∈ xU := xU_of 728 (by decide +kernel) (by decide +kernel)
theorem u_se_yX5_put : Cond.selects RX5 yX5_put yX5_put ∈ xU := xU_of 729 (by decide +kernel) (by decide +kernel)
theorem u_co_yX5_put : Cond.code yX5_put cX5_put 5 (some .int) ∈ xU := xU_of 730 (by decide +kernel) (by decide +kernel)
theorem u_ml_RL_74 : Cond.methodLink RL 74 yX4_length ∈ xU := xU_of 299 (by decide +kernel) (by decide +kernel)
theorem u_im_yX4_length : Cond.instanceMethod yX4_length ∈ xU := xU_of 300 (by decide +kernel) (by decide +kernel)
theorem u_se_yX4_length : Cond.selects RX4 yX4_length yX4_length ∈ xU := xU_of 301 (by decide +kernel) (by decide +kernel)
theorem u_co_yX4_length : Cond.code yX4_length cX4_length 5 (some .int) ∈ xU := xU_of 302 (by decide +kernel) (by decide +kernel)
theorem u_ml_RX4_119 : Cond.methodLink RX4 119 yX2_resize ∈ xU := xU_of 303 (by decide +kernel) (by decide +kernel)
theorem u_im_yX2_resize : Cond.instanceMethod yX2_resize ∈ xU := xU_of 304 (by decide +kernel) (by decide +kernel)
theorem u_se_yX2_resize : Cond.selects RX2 yX2_resize yX2_resize ∈ xU := xU_of 305 (by decide +kernel) (by decide +kernel)
theorem u_co_yX2_resize : Cond.code yX2_resize cX2_resize 3 none ∈ xU := xU_of 306 (by decide +kernel) (by decide +kernel)
theorem u_ml_RX2_31 : Cond.methodLink RX2 31 yX2_add ∈ xU := xU_of 307 (by decide +kernel) (by decide +kernel)
theorem u_ml_RL_77 : Cond.methodLink RL 77 yX5_length ∈ xU := xU_of 731 (by decide +kernel) (by decide +kernel)
theorem u_im_yX5_length : Cond.instanceMethod yX5_length ∈ xU := xU_of 732 (by decide +kernel) (by decide +kernel)
theorem u_se_yX5_length : Cond.selects RX5 yX5_length yX5_length ∈ xU := xU_of 733 (by decide +kernel) (by decide +kernel)
theorem u_co_yX5_length : Cond.code yX5_length cX5_length 5 (some .int) ∈ xU := xU_of 734 (by decide +kernel) (by decide +kernel)
theorem u_ml_RL_78 : Cond.methodLink RL 78 yX4_at ∈ xU := xU_of 308 (by decide +kernel) (by decide +kernel)
theorem u_im_yX4_at : Cond.instanceMethod yX4_at ∈ xU := xU_of 309 (by decide +kernel) (by decide +kernel)
theorem u_se_yX4_at : Cond.selects RX4 yX4_at yX4_at ∈ xU := xU_of 310 (by decide +kernel) (by decide +kernel)
theorem u_co_yX4_at : Cond.code yX4_at cX4_at 4 (some .int) ∈ xU := xU_of 311 (by decide +kernel) (by decide +kernel)
theorem u_ml_RL_81 : Cond.methodLink RL 81 yX5_at ∈ xU := xU_of 735 (by decide +kernel) (by decide +kernel)
theorem u_im_yX5_at : Cond.instanceMethod yX5_at ∈ xU := xU_of 736 (by decide +kernel) (by decide +kernel)
theorem u_se_yX5_at : Cond.selects RX5 yX5_at yX5_at ∈ xU := xU_of 737 (by decide +kernel) (by decide +kernel)
theorem u_co_yX5_at : Cond.code yX5_at cX5_at 3 (some .int) ∈ xU := xU_of 738 (by decide +kernel) (by decide +kernel)
theorem u_ml_RL_82 : Cond.methodLink RL 82 yX4_size ∈ xU := xU_of 312 (by decide +kernel) (by decide +kernel)
theorem u_im_yX4_size : Cond.instanceMethod yX4_size ∈ xU := xU_of 313 (by decide +kernel) (by decide +kernel)
theorem u_se_yX4_size : Cond.selects RX4 yX4_size yX4_size ∈ xU := xU_of 314 (by decide +kernel) (by decide +kernel)
theorem u_co_yX4_size : Cond.code yX4_size cX4_size 3 (some .int) ∈ xU := xU_of 315 (by decide +kernel) (by decide +kernel)
theorem u_ml_RL_85 : Cond.methodLink RL 85 yX5_size ∈ xU := xU_of 739 (by decide +kernel) (by decide +kernel)
theorem u_im_yX5_size : Cond.instanceMethod yX5_size ∈ xU := xU_of 740 (by decide +kernel) (by decide +kernel)
theorem u_se_yX5_size : Cond.selects RX5 yX5_size yX5_size ∈ xU := xU_of 741 (by decide +kernel) (by decide +kernel)
theorem u_co_yX5_size : Cond.code yX5_size cX5_size 2 (some .int) ∈ xU := xU_of 742 (by decide +kernel) (by decide +kernel)
theorem u_ml_RL_86 : Cond.methodLink RL 86 yX4_first ∈ xU := xU_of 316 (by decide +kernel) (by decide +kernel)
theorem u_im_yX4_first : Cond.instanceMethod yX4_first ∈ xU := xU_of 317 (by decide +kernel) (by decide +kernel)
theorem u_se_yX4_first : Cond.selects RX4 yX4_first yX4_first ∈ xU := xU_of 318 (by decide +kernel) (by decide +kernel)
theorem u_co_yX4_first : Cond.code yX4_first cX4_first 6 (some .int) ∈ xU := xU_of 319 (by decide +kernel) (by decide +kernel)
theorem u_ml_RX4_122 : Cond.methodLink RX4 122 yX2_findForward ∈ xU := xU_of 320 (by decide +kernel) (by decide +kernel)
theorem u_im_yX2_findForward : Cond.instanceMethod yX2_findForward ∈ xU := xU_of 321 (by decide +kernel) (by decide +kernel)
theorem u_se_yX2_findForward : Cond.selects RX2 yX2_findForward yX2_findForward ∈ xU := xU_of 322 (by decide +kernel) (by decide +kernel)
theorem u_co_yX2_findForward : Cond.code yX2_findForward cX2_findForward 4 (some .int) ∈ xU := xU_of 323 (by decide +kernel) (by decide +kernel)
theorem u_ml_RX2_59 : Cond.methodLink RX2 59 Lib.Math.max.name ∈ xU := xU_of 324 (by decide +kernel) (by decide +kernel)
theorem u_st_yJ9_max_7cf53 : Cond.static Lib.Math.max.name ∈ xU := xU_of 325 (by decide +kernel) (by decide +kernel)
theorem u_co_yJ9_max_7cf53 : Cond.code Lib.Math.max.name Lib.Math.max.code 2 (some .int) ∈ xU := xU_of 326 (by decide +kernel) (by decide +kernel)
theorem u_ml_RX2_62 : Cond.methodLink RX2 62 yX2_hasStanding ∈ xU := xU_of 327 (by decide +kernel) (by decide +kernel)
theorem u_im_yX2_hasStanding : Cond.instanceMethod yX2_hasStanding ∈ xU := xU_of 328 (by decide +kernel) (by decide +kernel)
theorem u_se_yX2_hasStanding : Cond.selects RX2 yX2_hasStanding yX2_hasStanding ∈ xU := xU_of 329 (by decide +kernel) (by decide +kernel)
theorem u_co_yX2_hasStanding : Cond.code yX2_hasStanding cX2_hasStanding 3 (some .boolean) ∈ xU := xU_of 330 (by decide +kernel) (by decide +kernel)
theorem u_ml_RX2_55 : Cond.methodLink RX2 55 yX2_sameRegion ∈ xU := xU_of 331 (by decide +kernel) (by decide +kernel)
theorem u_im_yX2_sameRegion : Cond.instanceMethod yX2_sameRegion ∈ xU := xU_of 332 (by decide +kernel) (by decide +kernel)
theorem u_se_yX2_sameRegion : Cond.selects RX2 yX2_sameRegion yX2_sameRegion ∈ xU := xU_of 333 (by decide +kernel) (by decide +kernel)
theorem u_co_yX2_sameRegion : Cond.code yX2_sameRegion cX2_sameRegion 6 (some .boolean) ∈ xU := xU_of 334 (by decide +kernel) (by decide +kernel)
theorem u_ml_RL_89 : Cond.methodLink RL 89 yX5_first ∈ xU := xU_of 743 (by decide +kernel) (by decide +kernel)
theorem u_im_yX5_first : Cond.instanceMethod yX5_first ∈ xU := xU_of 744 (by decide +kernel) (by decide +kernel)
theorem u_se_yX5_first : Cond.selects RX5 yX5_first yX5_first ∈ xU := xU_of 745 (by decide +kernel) (by decide +kernel)
theorem u_co_yX5_first : Cond.code yX5_first cX5_first 4 (some .int) ∈ xU := xU_of 746 (by decide +kernel) (by decide +kernel)
theorem u_ml_RX5_111 : Cond.methodLink RX5 111 yX5_firstOf ∈ xU := xU_of 747 (by decide +kernel) (by decide +kernel)
theorem u_im_yX5_firstOf : Cond.instanceMethod yX5_firstOf ∈ xU := xU_of 749 (by decide +kernel) (by decide +kernel)
theorem u_se_yX5_firstOf : Cond.selects RX5 yX5_firstOf yX5_firstOf ∈ xU := xU_of 21 (by decide +kernel) (by decide +kernel)
theorem u_co_yX5_firstOf : Cond.code yX5_firstOf cX5_firstOf 7 (some .int) ∈ xU := xU_of 750 (by decide +kernel) (by decide +kernel)
theorem u_ml_RX5_107 : Cond.methodLink RX5 107 yX5_stands ∈ xU := xU_of 751 (by decide +kernel) (by decide +kernel)
theorem u_im_yX5_stands : Cond.instanceMethod yX5_stands ∈ xU := xU_of 753 (by decide +kernel) (by decide +kernel)
theorem u_se_yX5_stands : Cond.selects RX5 yX5_stands yX5_stands ∈ xU := xU_of 22 (by decide +kernel) (by decide +kernel)
theorem u_co_yX5_stands : Cond.code yX5_stands cX5_stands 7 (some .boolean) ∈ xU := xU_of 754 (by decide +kernel) (by decide +kernel)
theorem u_ml_RL_90 : Cond.methodLink RL 90 yX4_last ∈ xU := xU_of 335 (by decide +kernel) (by decide +kernel)
theorem u_im_yX4_last : Cond.instanceMethod yX4_last ∈ xU := xU_of 336 (by decide +kernel) (by decide +kernel)
theorem u_se_yX4_last : Cond.selects RX4 yX4_last yX4_last ∈ xU := xU_of 337 (by decide +kernel) (by decide +kernel)
theorem u_co_yX4_last : Cond.code yX4_last cX4_last 6 (some .int) ∈ xU := xU_of 338 (by decide +kernel) (by decide +kernel)
theorem u_ml_RX4_126 : Cond.methodLink RX4 126 yX2_findBackward ∈ xU := xU_of 339 (by decide +kernel) (by decide +kernel)
theorem u_im_yX2_findBackward : Cond.instanceMethod yX2_findBackward ∈ xU := xU_of 340 (by decide +kernel) (by decide +kernel)
theorem u_se_yX2_findBackward : Cond.selects RX2 yX2_findBackward yX2_findBackward ∈ xU := xU_of 341 (by decide +kernel) (by decide +kernel)
theorem u_co_yX2_findBackward : Cond.code yX2_findBackward cX2_findBackward 4 (some .int) ∈ xU := xU_of 342 (by decide +kernel) (by decide +kernel)
theorem u_ml_RL_93 : Cond.methodLink RL 93 yX5_last ∈ xU := xU_of 755 (by decide +kernel) (by decide +kernel)
theorem u_im_yX5_last : Cond.instanceMethod yX5_last ∈ xU := xU_of 756 (by decide +kernel) (by decide +kernel)
theorem u_se_yX5_last : Cond.selects RX5 yX5_last yX5_last ∈ xU := xU_of 757 (by decide +kernel) (by decide +kernel)
theorem u_co_yX5_last : Cond.code yX5_last cX5_last 4 (some .int) ∈ xU := xU_of 758 (by decide +kernel) (by decide +kernel)
theorem u_ml_RX5_115 : Cond.methodLink RX5 115 yX5_lastOf ∈ xU := xU_of 759 (by decide +kernel) (by decide +kernel)
theorem u_im_yX5_lastOf : Cond.instanceMethod yX5_lastOf ∈ xU := xU_of 761 (by decide +kernel) (by decide +kernel)
theorem u_se_yX5_lastOf : Cond.selects RX5 yX5_lastOf yX5_lastOf ∈ xU := xU_of 23 (by decide +kernel) (by decide +kernel)
theorem u_co_yX5_lastOf : Cond.code yX5_lastOf cX5_lastOf 6 (some .int) ∈ xU := xU_of 762 (by decide +kernel) (by decide +kernel)
theorem u_ml_RL_94 : Cond.methodLink RL 94 yX4_take ∈ xU := xU_of 343 (by decide +kernel) (by decide +kernel)
theorem u_im_yX4_take : Cond.instanceMethod yX4_take ∈ xU := xU_of 344 (by decide +kernel) (by decide +kernel)
theorem u_se_yX4_take : Cond.selects RX4 yX4_take yX4_take ∈ xU := xU_of 345 (by decide +kernel) (by decide +kernel)
theorem u_co_yX4_take : Cond.code yX4_take cX4_take 7 (some .int) ∈ xU := xU_of 346 (by decide +kernel) (by decide +kernel)
theorem u_ml_RX4_129 : Cond.methodLink RX4 129 yX3_become ∈ xU := xU_of 347 (by decide +kernel) (by decide +kernel)
theorem u_im_yX3_become : Cond.instanceMethod yX3_become ∈ xU := xU_of 348 (by decide +kernel) (by decide +kernel)
theorem u_se_yX3_become : Cond.selects RX3 yX3_become yX3_become ∈ xU := xU_of 349 (by decide +kernel) (by decide +kernel)
theorem u_co_yX3_become : Cond.code yX3_become cX3_become 5 (some .int) ∈ xU := xU_of 350 (by decide +kernel) (by decide +kernel)
theorem u_ml_RX3_20 : Cond.methodLink RX3 20 yX2_copy ∈ xU := xU_of 351 (by decide +kernel) (by decide +kernel)
theorem u_im_yX2_copy : Cond.instanceMethod yX2_copy ∈ xU := xU_of 352 (by decide +kernel) (by decide +kernel)
theorem u_se_yX2_copy : Cond.selects RX2 yX2_copy yX2_copy ∈ xU := xU_of 353 (by decide +kernel) (by decide +kernel)
theorem u_co_yX2_copy : Cond.code yX2_copy cX2_copy 4 (some .int) ∈ xU := xU_of 354 (by decide +kernel) (by decide +kernel)
theorem u_ml_RL_97 : Cond.methodLink RL 97 yX5_take ∈ xU := xU_of 763 (by decide +kernel) (by decide +kernel)
theorem u_im_yX5_take : Cond.instanceMethod yX5_take ∈ xU := xU_of 764 (by decide +kernel) (by decide +kernel)
theorem u_se_yX5_take : Cond.selects RX5 yX5_take yX5_take ∈ xU := xU_of 765 (by decide +kernel) (by decide +kernel)
theorem u_co_yX5_take : Cond.code yX5_take cX5_take 6 (some .int) ∈ xU := xU_of 766 (by decide +kernel) (by decide +kernel)
theorem u_ml_RX5_118 : Cond.methodLink RX5 118 yX5_become ∈ xU := xU_of 767 (by decide +kernel) (by decide +kernel)
theorem u_im_yX5_become : Cond.instanceMethod yX5_become ∈ xU := xU_of 769 (by decide +kernel) (by decide +kernel)
theorem u_se_yX5_become : Cond.selects RX5 yX5_become yX5_become ∈ xU := xU_of 24 (by decide +kernel) (by decide +kernel)
theorem u_co_yX5_become : Cond.code yX5_become cX5_become 3 (some .int) ∈ xU := xU_of 770 (by decide +kernel) (by decide +kernel)
theorem u_ml_RL_98 : Cond.methodLink RL 98 yX4_ahead ∈ xU := xU_of 355 (by decide +kernel) (by decide +kernel)
theorem u_im_yX4_ahead : Cond.instanceMethod yX4_ahead ∈ xU := xU_of 356 (by decide +kernel) (by decide +kernel)
theorem u_se_yX4_ahead : Cond.selects RX4 yX4_ahead yX4_ahead ∈ xU := xU_of 357 (by decide +kernel) (by decide +kernel)
theorem u_co_yX4_ahead : Cond.code yX4_ahead cX4_ahead 5 (some .int) ∈ xU := xU_of 358 (by decide +kernel) (by decide +kernel)
theorem u_ml_RX4_133 : Cond.methodLink RX4 133 yX2_against ∈ xU := xU_of 359 (by decide +kernel) (by decide +kernel)
theorem u_im_yX2_against : Cond.instanceMethod yX2_against ∈ xU := xU_of 360 (by decide +kernel) (by decide +kernel)
theorem u_se_yX2_against : Cond.selects RX2 yX2_against yX2_against ∈ xU := xU_of 361 (by decide +kernel) (by decide +kernel)
theorem u_co_yX2_against : Cond.code yX2_against cX2_against 5 (some .int) ∈ xU := xU_of 362 (by decide +kernel) (by decide +kernel)
theorem u_ml_RX4_137 : Cond.methodLink RX4 137 yJ6_compare_7cf53 ∈ xU := xU_of 363 (by decide +kernel) (by decide +kernel)
theorem u_st_yJ6_compare_7cf53 : Cond.static yJ6_compare_7cf53 ∈ xU := xU_of 364 (by decide +kernel) (by decide +kernel)
theorem u_in_RJ6 : Cond.initialized RJ6 ∈ xU := xU_of 46 (by decide +kernel) (by decide +kernel)
theorem u_co_yJ6_compare_7cf53 : Cond.code yJ6_compare_7cf53 cJ6_compare_7cf53 2 (some .int) ∈ xU := xU_of 365 (by decide +kernel) (by decide +kernel)
theorem u_ml_RL_101 : Cond.methodLink RL 101 yX5_ahead ∈ xU := xU_of 771 (by decide +kernel) (by decide +kernel)
theorem u_im_yX5_ahead : Cond.instanceMethod yX5_ahead ∈ xU := xU_of 772 (by decide +kernel) (by decide +kernel)
theorem u_se_yX5_ahead : Cond.selects RX5 yX5_ahead yX5_ahead ∈ xU := xU_of 773 (by decide +kernel) (by decide +kernel)
theorem u_co_yX5_ahead : Cond.code yX5_ahead cX5_ahead 4 (some .int) ∈ xU := xU_of 774 (by decide +kernel) (by decide +kernel)
theorem u_ml_RX5_121 : Cond.methodLink RX5 121 yX5_orderOf ∈ xU := xU_of 775 (by decide +kernel) (by decide +kernel)
theorem u_st_yX5_orderOf : Cond.static yX5_orderOf ∈ xU := xU_of 776 (by decide +kernel) (by decide +kernel)
theorem u_co_yX5_orderOf : Cond.code yX5_orderOf cX5_orderOf 6 (some .int) ∈ xU := xU_of 777 (by decide +kernel) (by decide +kernel)
theorem u_ml_RL_102 : Cond.methodLink RL 102 yX4_forget ∈ xU := xU_of 366 (by decide +kernel) (by decide +kernel)
theorem u_im_yX4_forget : Cond.instanceMethod yX4_forget ∈ xU := xU_of 367 (by decide +kernel) (by decide +kernel)
theorem u_se_yX4_forget : Cond.selects RX4 yX4_forget yX4_forget ∈ xU := xU_of 368 (by decide +kernel) (by decide +kernel)
theorem u_co_yX4_forget : Cond.code yX4_forget cX4_forget 3 (some .int) ∈ xU := xU_of 369 (by decide +kernel) (by decide +kernel)
theorem u_ml_RL_105 : Cond.methodLink RL 105 yX5_forget ∈ xU := xU_of 778 (by decide +kernel) (by decide +kernel)
theorem u_im_yX5_forget : Cond.instanceMethod yX5_forget ∈ xU := xU_of 779 (by decide +kernel) (by decide +kernel)
theorem u_se_yX5_forget : Cond.selects RX5 yX5_forget yX5_forget ∈ xU := xU_of 780 (by decide +kernel) (by decide +kernel)
theorem u_co_yX5_forget : Cond.code yX5_forget cX5_forget 3 (some .int) ∈ xU := xU_of 781 (by decide +kernel) (by decide +kernel)
theorem u_ml_RL_106 : Cond.methodLink RL 106 yX4_textSize ∈ xU := xU_of 370 (by decide +kernel) (by decide +kernel)
theorem u_im_yX4_textSize : Cond.instanceMethod yX4_textSize ∈ xU := xU_of 371 (by decide +kernel) (by decide +kernel)
theorem u_se_yX4_textSize : Cond.selects RX4 yX4_textSize yX4_textSize ∈ xU := xU_of 372 (by decide +kernel) (by decide +kernel)
theorem u_co_yX4_textSize : Cond.code yX4_textSize cX4_textSize 3 (some .int) ∈ xU := xU_of 373 (by decide +kernel) (by decide +kernel)
theorem u_ml_RL_109 : Cond.methodLink RL 109 yX5_textSize ∈ xU := xU_of 782 (by decide +kernel) (by decide +kernel)
theorem u_im_yX5_textSize : Cond.instanceMethod yX5_textSize ∈ xU := xU_of 783 (by decide +kernel) (by decide +kernel)
theorem u_se_yX5_textSize : Cond.selects RX5 yX5_textSize yX5_textSize ∈ xU := xU_of 784 (by decide +kernel) (by decide +kernel)
theorem u_co_yX5_textSize : Cond.code yX5_textSize cX5_textSize 2 (some .int) ∈ xU := xU_of 785 (by decide +kernel) (by decide +kernel)
theorem u_ml_RL_110 : Cond.methodLink RL 110 yX4_signAt ∈ xU := xU_of 374 (by decide +kernel) (by decide +kernel)
theorem u_im_yX4_signAt : Cond.instanceMethod yX4_signAt ∈ xU := xU_of 375 (by decide +kernel) (by decide +kernel)
theorem u_se_yX4_signAt : Cond.selects RX4 yX4_signAt yX4_signAt ∈ xU := xU_of 376 (by decide +kernel) (by decide +kernel)
theorem u_co_yX4_signAt : Cond.code yX4_signAt cX4_signAt 4 (some .int) ∈ xU := xU_of 377 (by decide +kernel) (by decide +kernel)
theorem u_ml_RL_113 : Cond.methodLink RL 113 yX5_signAt ∈ xU := xU_of 786 (by decide +kernel) (by decide +kernel)
theorem u_im_yX5_signAt : Cond.instanceMethod yX5_signAt ∈ xU := xU_of 787 (by decide +kernel) (by decide +kernel)
theorem u_se_yX5_signAt : Cond.selects RX5 yX5_signAt yX5_signAt ∈ xU := xU_of 788 (by decide +kernel) (by decide +kernel)
theorem u_co_yX5_signAt : Cond.code yX5_signAt cX5_signAt 3 (some .int) ∈ xU := xU_of 789 (by decide +kernel) (by decide +kernel)
theorem u_ml_RL_114 : Cond.methodLink RL 114 yX4_firstSign ∈ xU := xU_of 378 (by decide +kernel) (by decide +kernel)
theorem u_im_yX4_firstSign : Cond.instanceMethod yX4_firstSign ∈ xU := xU_of 379 (by decide +kernel) (by decide +kernel)
theorem u_se_yX4_firstSign : Cond.selects RX4 yX4_firstSign yX4_firstSign ∈ xU := xU_of 380 (by decide +kernel) (by decide +kernel)
theorem u_co_yX4_firstSign : Cond.code yX4_firstSign cX4_firstSign 5 (some .int) ∈ xU := xU_of 381 (by decide +kernel) (by decide +kernel)
theorem u_ml_RX4_143 : Cond.methodLink RX4 143 yX2_signForward ∈ xU := xU_of 382 (by decide +kernel) (by decide +kernel)
theorem u_im_yX2_signForward : Cond.instanceMethod yX2_signForward ∈ xU := xU_of 383 (by decide +kernel) (by decide +kernel)
theorem u_se_yX2_signForward : Cond.selects RX2 yX2_signForward yX2_signForward ∈ xU := xU_of 384 (by decide +kernel) (by decide +kernel)
theorem u_co_yX2_signForward : Cond.code yX2_signForward cX2_signForward 4 (some .int) ∈ xU := xU_of 385 (by decide +kernel) (by decide +kernel)
theorem u_ml_RL_117 : Cond.methodLink RL 117 yX5_firstSign ∈ xU := xU_of 790 (by decide +kernel) (by decide +kernel)
theorem u_im_yX5_firstSign : Cond.instanceMethod yX5_firstSign ∈ xU := xU_of 791 (by decide +kernel) (by decide +kernel)
theorem u_se_yX5_firstSign : Cond.selects RX5 yX5_firstSign yX5_firstSign ∈ xU := xU_of 792 (by decide +kernel) (by decide +kernel)
theorem u_co_yX5_firstSign : Cond.code yX5_firstSign cX5_firstSign 5 (some .int) ∈ xU := xU_of 793 (by decide +kernel) (by decide +kernel)
theorem u_ml_RX5_125 : Cond.methodLink RX5 125 yX5_bars ∈ xU := xU_of 794 (by decide +kernel) (by decide +kernel)
theorem u_im_yX5_bars : Cond.instanceMethod yX5_bars ∈ xU := xU_of 796 (by decide +kernel) (by decide +kernel)
theorem u_se_yX5_bars : Cond.selects RX5 yX5_bars yX5_bars ∈ xU := xU_of 25 (by decide +kernel) (by decide +kernel)
theorem u_co_yX5_bars : Cond.code yX5_bars cX5_bars 3 (some .int) ∈ xU := xU_of 797 (by decide +kernel) (by decide +kernel)
theorem u_ml_RL_118 : Cond.methodLink RL 118 yX4_lastSign ∈ xU := xU_of 386 (by decide +kernel) (by decide +kernel)
theorem u_im_yX4_lastSign : Cond.instanceMethod yX4_lastSign ∈ xU := xU_of 387 (by decide +kernel) (by decide +kernel)
theorem u_se_yX4_lastSign : Cond.selects RX4 yX4_lastSign yX4_lastSign ∈ xU := xU_of 388 (by decide +kernel) (by decide +kernel)
theorem u_co_yX4_lastSign : Cond.code yX4_lastSign cX4_lastSign 5 (some .int) ∈ xU := xU_of 389 (by decide +kernel) (by decide +kernel)
theorem u_ml_RX4_146 : Cond.methodLink RX4 146 yX2_signBackward ∈ xU := xU_of 390 (by decide +kernel) (by decide +kernel)
theorem u_im_yX2_signBackward : Cond.instanceMethod yX2_signBackward ∈ xU := xU_of 391 (by decide +kernel) (by decide +kernel)
theorem u_se_yX2_signBackward : Cond.selects RX2 yX2_signBackward yX2_signBackward ∈ xU := xU_of 392 (by decide +kernel) (by decide +kernel)
theorem u_co_yX2_signBackward : Cond.code yX2_signBackward cX2_signBackward 4 (some .int) ∈ xU := xU_of 393 (by decide +kernel) (by decide +kernel)
theorem u_ml_RL_121 : Cond.methodLink RL 121 yX5_lastSign ∈ xU := xU_of 798 (by decide +kernel) (by decide +kernel)
theorem u_im_yX5_lastSign : Cond.instanceMethod yX5_lastSign ∈ xU := xU_of 799 (by decide +kernel) (by decide +kernel)
theorem u_se_yX5_lastSign : Cond.selects RX5 yX5_lastSign yX5_lastSign ∈ xU := xU_of 800 (by decide +kernel) (by decide +kernel)
theorem u_co_yX5_lastSign : Cond.code yX5_lastSign cX5_lastSign 5 (some .int) ∈ xU := xU_of 801 (by decide +kernel) (by decide +kernel)
theorem u_ml_RL_122 : Cond.methodLink RL 122 yX4_firstText ∈ xU := xU_of 394 (by decide +kernel) (by decide +kernel)
theorem u_im_yX4_firstText : Cond.instanceMethod yX4_firstText ∈ xU := xU_of 395 (by decide +kernel) (by decide +kernel)
theorem u_se_yX4_firstText : Cond.selects RX4 yX4_firstText yX4_firstText ∈ xU := xU_of 396 (by decide +kernel) (by decide +kernel)
theorem u_co_yX4_firstText : Cond.code yX4_firstText cX4_firstText 6 (some .int) ∈ xU := xU_of 397 (by decide +kernel) (by decide +kernel)
theorem u_ml_RL_125 : Cond.methodLink RL 125 yX5_firstText ∈ xU := xU_of 802 (by decide +kernel) (by decide +kernel)
theorem u_im_yX5_firstText : Cond.instanceMethod yX5_firstText ∈ xU := xU_of 803 (by decide +kernel) (by decide +kernel)
theorem u_se_yX5_firstText : Cond.selects RX5 yX5_firstText yX5_firstText ∈ xU := xU_of 804 (by decide +kernel) (by decide +kernel)
theorem u_co_yX5_firstText : Cond.code yX5_firstText cX5_firstText 5 (some .int) ∈ xU := xU_of 805 (by decide +kernel) (by decide +kernel)
theorem u_ml_RX5_128 : Cond.methodLink RX5 128 yX5_barsTwo ∈ xU := xU_of 806 (by decide +kernel) (by decide +kernel)
theorem u_im_yX5_barsTwo : Cond.instanceMethod yX5_barsTwo ∈ xU := xU_of 808 (by decide +kernel) (by decide +kernel)
theorem u_se_yX5_barsTwo : Cond.selects RX5 yX5_barsTwo yX5_barsTwo ∈ xU := xU_of 26 (by decide +kernel) (by decide +kernel)
theorem u_co_yX5_barsTwo : Cond.code yX5_barsTwo cX5_barsTwo 3 (some .int) ∈ xU := xU_of 809 (by decide +kernel) (by decide +kernel)
theorem u_ml_RL_126 : Cond.methodLink RL 126 yX4_lastText ∈ xU := xU_of 398 (by decide +kernel) (by decide +kernel)
theorem u_im_yX4_lastText : Cond.instanceMethod yX4_lastText ∈ xU := xU_of 399 (by decide +kernel) (by decide +kernel)
theorem u_se_yX4_lastText : Cond.selects RX4 yX4_lastText yX4_lastText ∈ xU := xU_of 400 (by decide +kernel) (by decide +kernel)
theorem u_co_yX4_lastText : Cond.code yX4_lastText cX4_lastText 6 (some .int) ∈ xU := xU_of 401 (by decide +kernel) (by decide +kernel)
theorem u_ml_RL_129 : Cond.methodLink RL 129 yX5_lastText ∈ xU := xU_of 810 (by decide +kernel) (by decide +kernel)
theorem u_im_yX5_lastText : Cond.instanceMethod yX5_lastText ∈ xU := xU_of 811 (by decide +kernel) (by decide +kernel)
theorem u_se_yX5_lastText : Cond.selects RX5 yX5_lastText yX5_lastText ∈ xU := xU_of 812 (by decide +kernel) (by decide +kernel)
theorem u_co_yX5_lastText : Cond.code yX5_lastText cX5_lastText 5 (some .int) ∈ xU := xU_of 813 (by decide +kernel) (by decide +kernel)
theorem u_ml_RL_130 : Cond.methodLink RL 130 yX4_region ∈ xU := xU_of 402 (by decide +kernel) (by decide +kernel)
theorem u_im_yX4_region : Cond.instanceMethod yX4_region ∈ xU := xU_of 403 (by decide +kernel) (by decide +kernel)
theorem u_se_yX4_region : Cond.selects RX4 yX4_region yX4_region ∈ xU := xU_of 404 (by decide +kernel) (by decide +kernel)
theorem u_co_yX4_region : Cond.code yX4_region cX4_region 8 (some .int) ∈ xU := xU_of 405 (by decide +kernel) (by decide +kernel)
theorem u_ml_RX4_149 : Cond.methodLink RX4 149 yX2_sameRegion ∈ xU := xU_of 406 (by decide +kernel) (by decide +kernel)
theorem u_ml_RL_133 : Cond.methodLink RL 133 yX5_region ∈ xU := xU_of 814 (by decide +kernel) (by decide +kernel)
theorem u_im_yX5_region : Cond.instanceMethod yX5_region ∈ xU := xU_of 815 (by decide +kernel) (by decide +kernel)
theorem u_se_yX5_region : Cond.selects RX5 yX5_region yX5_region ∈ xU := xU_of 816 (by decide +kernel) (by decide +kernel)
theorem u_co_yX5_region : Cond.code yX5_region cX5_region 9 (some .int) ∈ xU := xU_of 817 (by decide +kernel) (by decide +kernel)
theorem u_ml_RL_134 : Cond.methodLink RL 134 yX4_order ∈ xU := xU_of 407 (by decide +kernel) (by decide +kernel)
theorem u_im_yX4_order : Cond.instanceMethod yX4_order ∈ xU := xU_of 408 (by decide +kernel) (by decide +kernel)
theorem u_se_yX4_order : Cond.selects RX4 yX4_order yX4_order ∈ xU := xU_of 409 (by decide +kernel) (by decide +kernel)
theorem u_co_yX4_order : Cond.code yX4_order cX4_order 5 (some .int) ∈ xU := xU_of 410 (by decide +kernel) (by decide +kernel)
theorem u_ml_RL_137 : Cond.methodLink RL 137 yX5_order ∈ xU := xU_of 818 (by decide +kernel) (by decide +kernel)
theorem u_im_yX5_order : Cond.instanceMethod yX5_order ∈ xU := xU_of 819 (by decide +kernel) (by decide +kernel)
theorem u_se_yX5_order : Cond.selects RX5 yX5_order yX5_order ∈ xU := xU_of 820 (by decide +kernel) (by decide +kernel)
theorem u_co_yX5_order : Cond.code yX5_order cX5_order 4 (some .int) ∈ xU := xU_of 821 (by decide +kernel) (by decide +kernel)
theorem u_ml_RL_138 : Cond.methodLink RL 138 yX4_begins ∈ xU := xU_of 411 (by decide +kernel) (by decide +kernel)
theorem u_im_yX4_begins : Cond.instanceMethod yX4_begins ∈ xU := xU_of 412 (by decide +kernel) (by decide +kernel)
theorem u_se_yX4_begins : Cond.selects RX4 yX4_begins yX4_begins ∈ xU := xU_of 413 (by decide +kernel) (by decide +kernel)
theorem u_co_yX4_begins : Cond.code yX4_begins cX4_begins 6 (some .int) ∈ xU := xU_of 414 (by decide +kernel) (by decide +kernel)
theorem u_ml_RX4_153 : Cond.methodLink RX4 153 yX2_hasStanding ∈ xU := xU_of 415 (by decide +kernel) (by decide +kernel)
theorem u_ml_RL_141 : Cond.methodLink RL 141 yX5_begins ∈ xU := xU_of 822 (by decide +kernel) (by decide +kernel)
theorem u_im_yX5_begins : Cond.instanceMethod yX5_begins ∈ xU := xU_of 823 (by decide +kernel) (by decide +kernel)
theorem u_se_yX5_begins : Cond.selects RX5 yX5_begins yX5_begins ∈ xU := xU_of 824 (by decide +kernel) (by decide +kernel)
theorem u_co_yX5_begins : Cond.code yX5_begins cX5_begins 5 (some .int) ∈ xU := xU_of 825 (by decide +kernel) (by decide +kernel)
theorem u_ml_RL_142 : Cond.methodLink RL 142 yX4_swap ∈ xU := xU_of 416 (by decide +kernel) (by decide +kernel)
theorem u_im_yX4_swap : Cond.instanceMethod yX4_swap ∈ xU := xU_of 417 (by decide +kernel) (by decide +kernel)
theorem u_se_yX4_swap : Cond.selects RX4 yX4_swap yX4_swap ∈ xU := xU_of 418 (by decide +kernel) (by decide +kernel)
theorem u_co_yX4_swap : Cond.code yX4_swap cX4_swap 7 (some .int) ∈ xU := xU_of 419 (by decide +kernel) (by decide +kernel)
theorem u_ml_RX4_157 : Cond.methodLink RX4 157 yX2_writeEach ∈ xU := xU_of 420 (by decide +kernel) (by decide +kernel)
theorem u_im_yX2_writeEach : Cond.instanceMethod yX2_writeEach ∈ xU := xU_of 421 (by decide +kernel) (by decide +kernel)
theorem u_se_yX2_writeEach : Cond.selects RX2 yX2_writeEach yX2_writeEach ∈ xU := xU_of 422 (by decide +kernel) (by decide +kernel)
theorem u_co_yX2_writeEach : Cond.code yX2_writeEach cX2_writeEach 4 none ∈ xU := xU_of 423 (by decide +kernel) (by decide +kernel)
theorem u_ml_RL_145 : Cond.methodLink RL 145 yX5_swap ∈ xU := xU_of 826 (by decide +kernel) (by decide +kernel)
theorem u_im_yX5_swap : Cond.instanceMethod yX5_swap ∈ xU := xU_of 827 (by decide +kernel) (by decide +kernel)
theorem u_se_yX5_swap : Cond.selects RX5 yX5_swap yX5_swap ∈ xU := xU_of 828 (by decide +kernel) (by decide +kernel)
theorem u_co_yX5_swap : Cond.code yX5_swap cX5_swap 6 (some .int) ∈ xU := xU_of 829 (by decide +kernel) (by decide +kernel)
theorem u_ml_RL_146 : Cond.methodLink RL 146 yX4_sub ∈ xU := xU_of 424 (by decide +kernel) (by decide +kernel)
theorem u_im_yX4_sub : Cond.instanceMethod yX4_sub ∈ xU := xU_of 425 (by decide +kernel) (by decide +kernel)
theorem u_se_yX4_sub : Cond.selects RX4 yX4_sub yX4_sub ∈ xU := xU_of 426 (by decide +kernel) (by decide +kernel)
theorem u_co_yX4_sub : Cond.code yX4_sub cX4_sub 7 (some .int) ∈ xU := xU_of 427 (by decide +kernel) (by decide +kernel)
theorem u_ml_RL_149 : Cond.methodLink RL 149 yX5_sub ∈ xU := xU_of 830 (by decide +kernel) (by decide +kernel)
theorem u_im_yX5_sub : Cond.instanceMethod yX5_sub ∈ xU := xU_of 831 (by decide +kernel) (by decide +kernel)
theorem u_se_yX5_sub : Cond.selects RX5 yX5_sub yX5_sub ∈ xU := xU_of 832 (by decide +kernel) (by decide +kernel)
theorem u_co_yX5_sub : Cond.code yX5_sub cX5_sub 6 (some .int) ∈ xU := xU_of 833 (by decide +kernel) (by decide +kernel)
theorem u_ml_RX5_131 : Cond.methodLink RX5 131 yX5_barsOne ∈ xU := xU_of 834 (by decide +kernel) (by decide +kernel)
theorem u_im_yX5_barsOne : Cond.instanceMethod yX5_barsOne ∈ xU := xU_of 836 (by decide +kernel) (by decide +kernel)
theorem u_se_yX5_barsOne : Cond.selects RX5 yX5_barsOne yX5_barsOne ∈ xU := xU_of 27 (by decide +kernel) (by decide +kernel)
theorem u_co_yX5_barsOne : Cond.code yX5_barsOne cX5_barsOne 3 (some .int) ∈ xU := xU_of 837 (by decide +kernel) (by decide +kernel)
theorem u_ml_RL_150 : Cond.methodLink RL 150 yX4_trim ∈ xU := xU_of 428 (by decide +kernel) (by decide +kernel)
theorem u_im_yX4_trim : Cond.instanceMethod yX4_trim ∈ xU := xU_of 429 (by decide +kernel) (by decide +kernel)
theorem u_se_yX4_trim : Cond.selects RX4 yX4_trim yX4_trim ∈ xU := xU_of 430 (by decide +kernel) (by decide +kernel)
theorem u_co_yX4_trim : Cond.code yX4_trim cX4_trim 6 (some .int) ∈ xU := xU_of 431 (by decide +kernel) (by decide +kernel)
theorem u_ml_RX4_160 : Cond.methodLink RX4 160 yX2_blanksAhead ∈ xU := xU_of 432 (by decide +kernel) (by decide +kernel)
theorem u_im_yX2_blanksAhead : Cond.instanceMethod yX2_blanksAhead ∈ xU := xU_of 433 (by decide +kernel) (by decide +kernel)
theorem u_se_yX2_blanksAhead : Cond.selects RX2 yX2_blanksAhead yX2_blanksAhead ∈ xU := xU_of 434 (by decide +kernel) (by decide +kernel)
theorem u_co_yX2_blanksAhead : Cond.code yX2_blanksAhead cX2_blanksAhead 2 (some .int) ∈ xU := xU_of 435 (by decide +kernel) (by decide +kernel)
theorem u_ml_RX4_164 : Cond.methodLink RX4 164 yX2_endBeforeBlanks ∈ xU := xU_of 436 (by decide +kernel) (by decide +kernel)
theorem u_im_yX2_endBeforeBlanks : Cond.instanceMethod yX2_endBeforeBlanks ∈ xU := xU_of 437 (by decide +kernel) (by decide +kernel)
theorem u_se_yX2_endBeforeBlanks : Cond.selects RX2 yX2_endBeforeBlanks yX2_endBeforeBlanks ∈ xU := xU_of 438 (by decide +kernel) (by decide +kernel)
theorem u_co_yX2_endBeforeBlanks : Cond.code yX2_endBeforeBlanks cX2_endBeforeBlanks 3 (some .int) ∈ xU := xU_of 439 (by decide +kernel) (by decide +kernel)
theorem u_ml_RL_153 : Cond.methodLink RL 153 yX5_trim ∈ xU := xU_of 838 (by decide +kernel) (by decide +kernel)
theorem u_im_yX5_trim : Cond.instanceMethod yX5_trim ∈ xU := xU_of 839 (by decide +kernel) (by decide +kernel)
theorem u_se_yX5_trim : Cond.selects RX5 yX5_trim yX5_trim ∈ xU := xU_of 840 (by decide +kernel) (by decide +kernel)
theorem u_co_yX5_trim : Cond.code yX5_trim cX5_trim 6 (some .int) ∈ xU := xU_of 841 (by decide +kernel) (by decide +kernel)
theorem u_ml_RL_154 : Cond.methodLink RL 154 yX4_repeat ∈ xU := xU_of 440 (by decide +kernel) (by decide +kernel)
theorem u_im_yX4_repeat : Cond.instanceMethod yX4_repeat ∈ xU := xU_of 441 (by decide +kernel) (by decide +kernel)
theorem u_se_yX4_repeat : Cond.selects RX4 yX4_repeat yX4_repeat ∈ xU := xU_of 442 (by decide +kernel) (by decide +kernel)
theorem u_co_yX4_repeat : Cond.code yX4_repeat cX4_repeat 9 (some .int) ∈ xU := xU_of 443 (by decide +kernel) (by decide +kernel)
theorem u_ko_RX4_167 : Cond.constantLong RX4 167 (200) ∈ xU := xU_of 444 (by decide +kernel) (by decide +kernel)
theorem u_ml_RX4_169 : Cond.methodLink RX4 169 Lib.Math.min.name ∈ xU := xU_of 445 (by decide +kernel) (by decide +kernel)
theorem u_ml_RL_157 : Cond.methodLink RL 157 yX5_repeat ∈ xU := xU_of 842 (by decide +kernel) (by decide +kernel)
theorem u_im_yX5_repeat : Cond.instanceMethod yX5_repeat ∈ xU := xU_of 843 (by decide +kernel) (by decide +kernel)
theorem u_se_yX5_repeat : Cond.selects RX5 yX5_repeat yX5_repeat ∈ xU := xU_of 844 (by decide +kernel) (by decide +kernel)
theorem u_co_yX5_repeat : Cond.code yX5_repeat cX5_repeat 7 (some .int) ∈ xU := xU_of 845 (by decide +kernel) (by decide +kernel)
theorem u_ko_RX5_134 : Cond.constantLong RX5 134 (200) ∈ xU := xU_of 846 (by decide +kernel) (by decide +kernel)
theorem u_ml_RL_158 : Cond.methodLink RL 158 yX4_join ∈ xU := xU_of 446 (by decide +kernel) (by decide +kernel)
theorem u_im_yX4_join : Cond.instanceMethod yX4_join ∈ xU := xU_of 447 (by decide +kernel) (by decide +kernel)
theorem u_se_yX4_join : Cond.selects RX4 yX4_join yX4_join ∈ xU := xU_of 448 (by decide +kernel) (by decide +kernel)
theorem u_co_yX4_join : Cond.code yX4_join cX4_join 9 (some .int) ∈ xU := xU_of 449 (by decide +kernel) (by decide +kernel)
theorem u_ml_RL_161 : Cond.methodLink RL 161 yX5_join ∈ xU := xU_of 847 (by decide +kernel) (by decide +kernel)
theorem u_im_yX5_join : Cond.instanceMethod yX5_join ∈ xU := xU_of 848 (by decide +kernel) (by decide +kernel)
theorem u_se_yX5_join : Cond.selects RX5 yX5_join yX5_join ∈ xU := xU_of 849 (by decide +kernel) (by decide +kernel)
theorem u_co_yX5_join : Cond.code yX5_join cX5_join 5 (some .int) ∈ xU := xU_of 850 (by decide +kernel) (by decide +kernel)
theorem u_ml_RL_162 : Cond.methodLink RL 162 yX4_split ∈ xU := xU_of 450 (by decide +kernel) (by decide +kernel)
theorem u_im_yX4_split : Cond.instanceMethod yX4_split ∈ xU := xU_of 451 (by decide +kernel) (by decide +kernel)
theorem u_se_yX4_split : Cond.selects RX4 yX4_split yX4_split ∈ xU := xU_of 452 (by decide +kernel) (by decide +kernel)
theorem u_co_yX4_split : Cond.code yX4_split cX4_split 5 (some .int) ∈ xU := xU_of 453 (by decide +kernel) (by decide +kernel)
theorem u_ml_RX4_174 : Cond.methodLink RX4 174 yX4_isSeparator ∈ xU := xU_of 454 (by decide +kernel) (by decide +kernel)
theorem u_st_yX4_isSeparator : Cond.static yX4_isSeparator ∈ xU := xU_of 455 (by decide +kernel) (by decide +kernel)
theorem u_co_yX4_isSeparator : Cond.code yX4_isSeparator cX4_isSeparator 2 (some .boolean) ∈ xU := xU_of 456 (by decide +kernel) (by decide +kernel)
theorem u_fl_RX4_232 : Cond.fieldLink RX4 232 "RowsOfSigns" "NO_SEPARATORS" "[I" ∈ xU := xU_of 457 (by decide +kernel) (by decide +kernel)
theorem u_ml_RX4_177 : Cond.methodLink RX4 177 yX1_fall ∈ xU := xU_of 459 (by decide +kernel) (by decide +kernel)
theorem u_im_yX1_fall : Cond.instanceMethod yX1_fall ∈ xU := xU_of 460 (by decide +kernel) (by decide +kernel)
theorem u_se_yX1_fall : Cond.selects RX1 yX1_fall yX1_fall ∈ xU := xU_of 461 (by decide +kernel) (by decide +kernel)
theorem u_co_yX1_fall : Cond.code yX1_fall cX1_fall 6 none ∈ xU := xU_of 462 (by decide +kernel) (by decide +kernel)
theorem u_fl_RX1_25 : Cond.fieldLink RX1 25 "RowsOfSigns$Parts" "count" "I" ∈ xU := xU_of 88 (by decide +kernel) (by decide +kernel)
theorem u_ml_RX1_36 : Cond.methodLink RX1 36 yX2_copy ∈ xU := xU_of 463 (by decide +kernel) (by decide +kernel)
theorem u_ml_RX1_40 : Cond.methodLink RX1 40 yX2_signThere ∈ xU := xU_of 464 (by decide +kernel) (by decide +kernel)
theorem u_ml_RX1_44 : Cond.methodLink RX1 44 yX1_mayPart ∈ xU := xU_of 465 (by decide +kernel) (by decide +kernel)
theorem u_im_yX1_mayPart : Cond.instanceMethod yX1_mayPart ∈ xU := xU_of 467 (by decide +kernel) (by decide +kernel)
theorem u_se_yX1_mayPart : Cond.selects RX1 yX1_mayPart yX1_mayPart ∈ xU := xU_of 7 (by decide +kernel) (by decide +kernel)
theorem u_co_yX1_mayPart : Cond.code yX1_mayPart cX1_mayPart 2 (some .boolean) ∈ xU := xU_of 468 (by decide +kernel) (by decide +kernel)
theorem u_ml_RX1_47 : Cond.methodLink RX1 47 yX1_addPart ∈ xU := xU_of 469 (by decide +kernel) (by decide +kernel)
theorem u_im_yX1_addPart : Cond.instanceMethod yX1_addPart ∈ xU := xU_of 471 (by decide +kernel) (by decide +kernel)
theorem u_se_yX1_addPart : Cond.selects RX1 yX1_addPart yX1_addPart ∈ xU := xU_of 8 (by decide +kernel) (by decide +kernel)
theorem u_co_yX1_addPart : Cond.code yX1_addPart cX1_addPart 3 none ∈ xU := xU_of 472 (by decide +kernel) (by decide +kernel)
theorem u_ml_RX1_51 : Cond.methodLink RX1 51 yX1_dropEmptyEnd ∈ xU := xU_of 473 (by decide +kernel) (by decide +kernel)
theorem u_im_yX1_dropEmptyEnd : Cond.instanceMethod yX1_dropEmptyEnd ∈ xU := xU_of 475 (by decide +kernel) (by decide +kernel)
theorem u_se_yX1_dropEmptyEnd : Cond.selects RX1 yX1_dropEmptyEnd yX1_dropEmptyEnd ∈ xU := xU_of 9 (by decide +kernel) (by decide +kernel)
theorem u_co_yX1_dropEmptyEnd : Cond.code yX1_dropEmptyEnd cX1_dropEmptyEnd 2 none ∈ xU := xU_of 476 (by decide +kernel) (by decide +kernel)
theorem u_ml_RX1_54 : Cond.methodLink RX1 54 yX1_start ∈ xU := xU_of 477 (by decide +kernel) (by decide +kernel)
theorem u_im_yX1_start : Cond.instanceMethod yX1_start ∈ xU := xU_of 478 (by decide +kernel) (by decide +kernel)
theorem u_se_yX1_start : Cond.selects RX1 yX1_start yX1_start ∈ xU := xU_of 479 (by decide +kernel) (by decide +kernel)
theorem u_co_yX1_start : Cond.code yX1_start cX1_start 2 (some .int) ∈ xU := xU_of 480 (by decide +kernel) (by decide +kernel)
theorem u_ml_RX1_29 : Cond.methodLink RX1 29 yX1_has ∈ xU := xU_of 481 (by decide +kernel) (by decide +kernel)
theorem u_im_yX1_has : Cond.instanceMethod yX1_has ∈ xU := xU_of 482 (by decide +kernel) (by decide +kernel)
theorem u_se_yX1_has : Cond.selects RX1 yX1_has yX1_has ∈ xU := xU_of 483 (by decide +kernel) (by decide +kernel)
theorem u_co_yX1_has : Cond.code yX1_has cX1_has 2 (some .boolean) ∈ xU := xU_of 484 (by decide +kernel) (by decide +kernel)
theorem u_ml_RX1_57 : Cond.methodLink RX1 57 yX1_end ∈ xU := xU_of 485 (by decide +kernel) (by decide +kernel)
theorem u_im_yX1_end : Cond.instanceMethod yX1_end ∈ xU := xU_of 486 (by decide +kernel) (by decide +kernel)
theorem u_se_yX1_end : Cond.selects RX1 yX1_end yX1_end ∈ xU := xU_of 487 (by decide +kernel) (by decide +kernel)
theorem u_co_yX1_end : Cond.code yX1_end cX1_end 2 (some .int) ∈ xU := xU_of 488 (by decide +kernel) (by decide +kernel)
theorem u_ml_RL_165 : Cond.methodLink RL 165 yX5_split ∈ xU := xU_of 851 (by decide +kernel) (by decide +kernel)
theorem u_im_yX5_split : Cond.instanceMethod yX5_split ∈ xU := xU_of 852 (by decide +kernel) (by decide +kernel)
theorem u_se_yX5_split : Cond.selects RX5 yX5_split yX5_split ∈ xU := xU_of 853 (by decide +kernel) (by decide +kernel)
theorem u_co_yX5_split : Cond.code yX5_split cX5_split 6 (some .int) ∈ xU := xU_of 854 (by decide +kernel) (by decide +kernel)
theorem u_fl_RX5_148 : Cond.fieldLink RX5 148 "RowsOfSignsModel" "parts" "I" ∈ xU := xU_of 592 (by decide +kernel) (by decide +kernel)
theorem u_ml_RX5_151 : Cond.methodLink RX5 151 yX5_isSeparator ∈ xU := xU_of 855 (by decide +kernel) (by decide +kernel)
theorem u_st_yX5_isSeparator : Cond.static yX5_isSeparator ∈ xU := xU_of 856 (by decide +kernel) (by decide +kernel)
theorem u_co_yX5_isSeparator : Cond.code yX5_isSeparator cX5_isSeparator 2 (some .boolean) ∈ xU := xU_of 857 (by decide +kernel) (by decide +kernel)
theorem u_ko_RX5_136 : Cond.constantLong RX5 136 (40) ∈ xU := xU_of 858 (by decide +kernel) (by decide +kernel)
theorem u_ko_RX5_138 : Cond.constantLong RX5 138 (43) ∈ xU := xU_of 859 (by decide +kernel) (by decide +kernel)
theorem u_ko_RX5_140 : Cond.constantLong RX5 140 (91) ∈ xU := xU_of 860 (by decide +kernel) (by decide +kernel)
theorem u_ko_RX5_142 : Cond.constantLong RX5 142 (92) ∈ xU := xU_of 861 (by decide +kernel) (by decide +kernel)
theorem u_ko_RX5_144 : Cond.constantLong RX5 144 (123) ∈ xU := xU_of 862 (by decide +kernel) (by decide +kernel)
theorem u_ko_RX5_146 : Cond.constantLong RX5 146 (124) ∈ xU := xU_of 863 (by decide +kernel) (by decide +kernel)
theorem u_ml_RX5_154 : Cond.methodLink RX5 154 yX5_layPart ∈ xU := xU_of 864 (by decide +kernel) (by decide +kernel)
theorem u_im_yX5_layPart : Cond.instanceMethod yX5_layPart ∈ xU := xU_of 866 (by decide +kernel) (by decide +kernel)
theorem u_se_yX5_layPart : Cond.selects RX5 yX5_layPart yX5_layPart ∈ xU := xU_of 28 (by decide +kernel) (by decide +kernel)
theorem u_co_yX5_layPart : Cond.code yX5_layPart cX5_layPart 3 none ∈ xU := xU_of 867 (by decide +kernel) (by decide +kernel)
theorem u_ml_RL_166 : Cond.methodLink RL 166 yX4_parts ∈ xU := xU_of 489 (by decide +kernel) (by decide +kernel)
theorem u_im_yX4_parts : Cond.instanceMethod yX4_parts ∈ xU := xU_of 490 (by decide +kernel) (by decide +kernel)
theorem u_se_yX4_parts : Cond.selects RX4 yX4_parts yX4_parts ∈ xU := xU_of 491 (by decide +kernel) (by decide +kernel)
theorem u_co_yX4_parts : Cond.code yX4_parts cX4_parts 1 (some .int) ∈ xU := xU_of 492 (by decide +kernel) (by decide +kernel)
theorem u_ml_RL_170 : Cond.methodLink RL 170 yX5_parts ∈ xU := xU_of 868 (by decide +kernel) (by decide +kernel)
theorem u_im_yX5_parts : Cond.instanceMethod yX5_parts ∈ xU := xU_of 869 (by decide +kernel) (by decide +kernel)
theorem u_se_yX5_parts : Cond.selects RX5 yX5_parts yX5_parts ∈ xU := xU_of 870 (by decide +kernel) (by decide +kernel)
theorem u_co_yX5_parts : Cond.code yX5_parts cX5_parts 1 (some .int) ∈ xU := xU_of 871 (by decide +kernel) (by decide +kernel)
theorem u_ml_RL_171 : Cond.methodLink RL 171 yX4_partTo ∈ xU := xU_of 493 (by decide +kernel) (by decide +kernel)
theorem u_im_yX4_partTo : Cond.instanceMethod yX4_partTo ∈ xU := xU_of 494 (by decide +kernel) (by decide +kernel)
theorem u_se_yX4_partTo : Cond.selects RX4 yX4_partTo yX4_partTo ∈ xU := xU_of 495 (by decide +kernel) (by decide +kernel)
theorem u_co_yX4_partTo : Cond.code yX4_partTo cX4_partTo 4 (some .int) ∈ xU := xU_of 496 (by decide +kernel) (by decide +kernel)
theorem u_ml_RX4_184 : Cond.methodLink RX4 184 yX1_has ∈ xU := xU_of 497 (by decide +kernel) (by decide +kernel)
theorem u_ml_RX4_190 : Cond.methodLink RX4 190 yX1_start ∈ xU := xU_of 498 (by decide +kernel) (by decide +kernel)
theorem u_ml_RX4_193 : Cond.methodLink RX4 193 yX1_end ∈ xU := xU_of 499 (by decide +kernel) (by decide +kernel)
theorem u_ml_RL_174 : Cond.methodLink RL 174 yX5_partTo ∈ xU := xU_of 872 (by decide +kernel) (by decide +kernel)
theorem u_im_yX5_partTo : Cond.instanceMethod yX5_partTo ∈ xU := xU_of 873 (by decide +kernel) (by decide +kernel)
theorem u_se_yX5_partTo : Cond.selects RX5 yX5_partTo yX5_partTo ∈ xU := xU_of 874 (by decide +kernel) (by decide +kernel)
theorem u_co_yX5_partTo : Cond.code yX5_partTo cX5_partTo 3 (some .int) ∈ xU := xU_of 875 (by decide +kernel) (by decide +kernel)
theorem u_ml_RX5_157 : Cond.methodLink RX5 157 yX5_addPart ∈ xU := xU_of 876 (by decide +kernel) (by decide +kernel)
theorem u_im_yX5_addPart : Cond.instanceMethod yX5_addPart ∈ xU := xU_of 878 (by decide +kernel) (by decide +kernel)
theorem u_se_yX5_addPart : Cond.selects RX5 yX5_addPart yX5_addPart ∈ xU := xU_of 29 (by decide +kernel) (by decide +kernel)
theorem u_co_yX5_addPart : Cond.code yX5_addPart cX5_addPart 3 none ∈ xU := xU_of 879 (by decide +kernel) (by decide +kernel)
theorem u_ml_RL_175 : Cond.methodLink RL 175 yX4_joined ∈ xU := xU_of 500 (by decide +kernel) (by decide +kernel)
theorem u_im_yX4_joined : Cond.instanceMethod yX4_joined ∈ xU := xU_of 501 (by decide +kernel) (by decide +kernel)
theorem u_se_yX4_joined : Cond.selects RX4 yX4_joined yX4_joined ∈ xU := xU_of 502 (by decide +kernel) (by decide +kernel)
theorem u_co_yX4_joined : Cond.code yX4_joined cX4_joined 6 (some .int) ∈ xU := xU_of 503 (by decide +kernel) (by decide +kernel)
theorem u_ml_RL_178 : Cond.methodLink RL 178 yX5_joined ∈ xU := xU_of 880 (by decide +kernel) (by decide +kernel)
theorem u_im_yX5_joined : Cond.instanceMethod yX5_joined ∈ xU := xU_of 881 (by decide +kernel) (by decide +kernel)
theorem u_se_yX5_joined : Cond.selects RX5 yX5_joined yX5_joined ∈ xU := xU_of 882 (by decide +kernel) (by decide +kernel)
theorem u_co_yX5_joined : Cond.code yX5_joined cX5_joined 4 (some .int) ∈ xU := xU_of 883 (by decide +kernel) (by decide +kernel)
theorem u_ml_RL_179 : Cond.methodLink RL 179 yX4_cutter ∈ xU := xU_of 504 (by decide +kernel) (by decide +kernel)
theorem u_im_yX4_cutter : Cond.instanceMethod yX4_cutter ∈ xU := xU_of 505 (by decide +kernel) (by decide +kernel)
theorem u_se_yX4_cutter : Cond.selects RX4 yX4_cutter yX4_cutter ∈ xU := xU_of 506 (by decide +kernel) (by decide +kernel)
theorem u_co_yX4_cutter : Cond.code yX4_cutter cX4_cutter 8 (some .int) ∈ xU := xU_of 507 (by decide +kernel) (by decide +kernel)
theorem u_ml_RX4_196 : Cond.methodLink RX4 196 yX4_cutterOf ∈ xU := xU_of 508 (by decide +kernel) (by decide +kernel)
theorem u_im_yX4_cutterOf : Cond.instanceMethod yX4_cutterOf ∈ xU := xU_of 510 (by decide +kernel) (by decide +kernel)
theorem u_se_yX4_cutterOf : Cond.selects RX4 yX4_cutterOf yX4_cutterOf ∈ xU := xU_of 10 (by decide +kernel) (by decide +kernel)
theorem u_co_yX4_cutterOf : Cond.code yX4_cutterOf cX4_cutterOf 2 (some (.object "RowsOfSigns$Cutter")) ∈ xU := xU_of 511 (by decide +kernel) (by decide +kernel)
theorem u_ml_RX4_200 : Cond.methodLink RX4 200 yX0_begin ∈ xU := xU_of 512 (by decide +kernel) (by decide +kernel)
theorem u_im_yX0_begin : Cond.instanceMethod yX0_begin ∈ xU := xU_of 513 (by decide +kernel) (by decide +kernel)
theorem u_se_yX0_begin : Cond.selects RX0 yX0_begin yX0_begin ∈ xU := xU_of 514 (by decide +kernel) (by decide +kernel)
theorem u_co_yX0_begin : Cond.code yX0_begin cX0_begin 4 none ∈ xU := xU_of 515 (by decide +kernel) (by decide +kernel)
theorem u_fl_RX0_38 : Cond.fieldLink RX0 38 "RowsOfSigns$Cutter" "gives" "Z" ∈ xU := xU_of 125 (by decide +kernel) (by decide +kernel)
theorem u_fl_RX0_41 : Cond.fieldLink RX0 41 "RowsOfSigns$Cutter" "place" "I" ∈ xU := xU_of 128 (by decide +kernel) (by decide +kernel)
theorem u_ml_RX0_30 : Cond.methodLink RX0 30 yX2_copy ∈ xU := xU_of 516 (by decide +kernel) (by decide +kernel)
theorem u_ml_RX0_34 : Cond.methodLink RX0 34 yX0_separateBy ∈ xU := xU_of 517 (by decide +kernel) (by decide +kernel)
theorem u_im_yX0_separateBy : Cond.instanceMethod yX0_separateBy ∈ xU := xU_of 518 (by decide +kernel) (by decide +kernel)
theorem u_se_yX0_separateBy : Cond.selects RX0 yX0_separateBy yX0_separateBy ∈ xU := xU_of 519 (by decide +kernel) (by decide +kernel)
theorem u_co_yX0_separateBy : Cond.code yX0_separateBy cX0_separateBy 4 none ∈ xU := xU_of 520 (by decide +kernel) (by decide +kernel)
theorem u_ml_RX0_44 : Cond.methodLink RX0 44 yX2_signThere ∈ xU := xU_of 521 (by decide +kernel) (by decide +kernel)
theorem u_ml_RX4_204 : Cond.methodLink RX4 204 yX0_tokensLeft ∈ xU := xU_of 522 (by decide +kernel) (by decide +kernel)
theorem u_im_yX0_tokensLeft : Cond.instanceMethod yX0_tokensLeft ∈ xU := xU_of 523 (by decide +kernel) (by decide +kernel)
theorem u_se_yX0_tokensLeft : Cond.selects RX0 yX0_tokensLeft yX0_tokensLeft ∈ xU := xU_of 524 (by decide +kernel) (by decide +kernel)
theorem u_co_yX0_tokensLeft : Cond.code yX0_tokensLeft cX0_tokensLeft 3 (some .int) ∈ xU := xU_of 525 (by decide +kernel) (by decide +kernel)
theorem u_ml_RX0_48 : Cond.methodLink RX0 48 yX0_tokenStart ∈ xU := xU_of 526 (by decide +kernel) (by decide +kernel)
theorem u_im_yX0_tokenStart : Cond.instanceMethod yX0_tokenStart ∈ xU := xU_of 528 (by decide +kernel) (by decide +kernel)
theorem u_se_yX0_tokenStart : Cond.selects RX0 yX0_tokenStart yX0_tokenStart ∈ xU := xU_of 11 (by decide +kernel) (by decide +kernel)
theorem u_co_yX0_tokenStart : Cond.code yX0_tokenStart cX0_tokenStart 3 (some .int) ∈ xU := xU_of 529 (by decide +kernel) (by decide +kernel)
theorem u_ml_RX0_59 : Cond.methodLink RX0 59 yX0_separatesAt ∈ xU := xU_of 530 (by decide +kernel) (by decide +kernel)
theorem u_im_yX0_separatesAt : Cond.instanceMethod yX0_separatesAt ∈ xU := xU_of 532 (by decide +kernel) (by decide +kernel)
theorem u_se_yX0_separatesAt : Cond.selects RX0 yX0_separatesAt yX0_separatesAt ∈ xU := xU_of 12 (by decide +kernel) (by decide +kernel)
theorem u_co_yX0_separatesAt : Cond.code yX0_separatesAt cX0_separatesAt 3 (some .boolean) ∈ xU := xU_of 533 (by decide +kernel) (by decide +kernel)
theorem u_ml_RX0_51 : Cond.methodLink RX0 51 yX0_tokenEnd ∈ xU := xU_of 534 (by decide +kernel) (by decide +kernel)
theorem u_im_yX0_tokenEnd : Cond.instanceMethod yX0_tokenEnd ∈ xU := xU_of 536 (by decide +kernel) (by decide +kernel)
theorem u_se_yX0_tokenEnd : Cond.selects RX0 yX0_tokenEnd yX0_tokenEnd ∈ xU := xU_of 13 (by decide +kernel) (by decide +kernel)
theorem u_co_yX0_tokenEnd : Cond.code yX0_tokenEnd cX0_tokenEnd 3 (some .int) ∈ xU := xU_of 537 (by decide +kernel) (by decide +kernel)
theorem u_ml_RL_183 : Cond.methodLink RL 183 yX5_cutter ∈ xU := xU_of 884 (by decide +kernel) (by decide +kernel)
theorem u_im_yX5_cutter : Cond.instanceMethod yX5_cutter ∈ xU := xU_of 885 (by decide +kernel) (by decide +kernel)
theorem u_se_yX5_cutter : Cond.selects RX5 yX5_cutter yX5_cutter ∈ xU := xU_of 886 (by decide +kernel) (by decide +kernel)
theorem u_co_yX5_cutter : Cond.code yX5_cutter cX5_cutter 6 (some .int) ∈ xU := xU_of 887 (by decide +kernel) (by decide +kernel)
theorem u_ml_RX5_170 : Cond.methodLink RX5 170 yX5_isCutter ∈ xU := xU_of 888 (by decide +kernel) (by decide +kernel)
theorem u_st_yX5_isCutter : Cond.static yX5_isCutter ∈ xU := xU_of 889 (by decide +kernel) (by decide +kernel)
theorem u_co_yX5_isCutter : Cond.code yX5_isCutter cX5_isCutter 1 (some .boolean) ∈ xU := xU_of 890 (by decide +kernel) (by decide +kernel)
theorem u_ml_RX5_173 : Cond.methodLink RX5 173 yX5_laySeparators ∈ xU := xU_of 891 (by decide +kernel) (by decide +kernel)
theorem u_im_yX5_laySeparators : Cond.instanceMethod yX5_laySeparators ∈ xU := xU_of 893 (by decide +kernel) (by decide +kernel)
theorem u_se_yX5_laySeparators : Cond.selects RX5 yX5_laySeparators yX5_laySeparators ∈ xU := xU_of 30 (by decide +kernel) (by decide +kernel)
theorem u_co_yX5_laySeparators : Cond.code yX5_laySeparators cX5_laySeparators 4 none ∈ xU := xU_of 894 (by decide +kernel) (by decide +kernel)
theorem u_ml_RX5_176 : Cond.methodLink RX5 176 yX5_leftOf ∈ xU := xU_of 895 (by decide +kernel) (by decide +kernel)
theorem u_im_yX5_leftOf : Cond.instanceMethod yX5_leftOf ∈ xU := xU_of 897 (by decide +kernel) (by decide +kernel)
theorem u_se_yX5_leftOf : Cond.selects RX5 yX5_leftOf yX5_leftOf ∈ xU := xU_of 31 (by decide +kernel) (by decide +kernel)
theorem u_co_yX5_leftOf : Cond.code yX5_leftOf cX5_leftOf 4 (some .int) ∈ xU := xU_of 898 (by decide +kernel) (by decide +kernel)
theorem u_ml_RX5_164 : Cond.methodLink RX5 164 yX5_beginOf ∈ xU := xU_of 899 (by decide +kernel) (by decide +kernel)
theorem u_im_yX5_beginOf : Cond.instanceMethod yX5_beginOf ∈ xU := xU_of 901 (by decide +kernel) (by decide +kernel)
theorem u_se_yX5_beginOf : Cond.selects RX5 yX5_beginOf yX5_beginOf ∈ xU := xU_of 32 (by decide +kernel) (by decide +kernel)
theorem u_co_yX5_beginOf : Cond.code yX5_beginOf cX5_beginOf 4 (some .int) ∈ xU := xU_of 902 (by decide +kernel) (by decide +kernel)
theorem u_ml_RX5_160 : Cond.methodLink RX5 160 yX5_isSeparatorAt ∈ xU := xU_of 903 (by decide +kernel) (by decide +kernel)
theorem u_im_yX5_isSeparatorAt : Cond.instanceMethod yX5_isSeparatorAt ∈ xU := xU_of 905 (by decide +kernel) (by decide +kernel)
theorem u_se_yX5_isSeparatorAt : Cond.selects RX5 yX5_isSeparatorAt yX5_isSeparatorAt ∈ xU := xU_of 33 (by decide +kernel) (by decide +kernel)
theorem u_co_yX5_isSeparatorAt : Cond.code yX5_isSeparatorAt cX5_isSeparatorAt 3 (some .boolean) ∈ xU := xU_of 906 (by decide +kernel) (by decide +kernel)
theorem u_ml_RX5_167 : Cond.methodLink RX5 167 yX5_behindOf ∈ xU := xU_of 907 (by decide +kernel) (by decide +kernel)
theorem u_im_yX5_behindOf : Cond.instanceMethod yX5_behindOf ∈ xU := xU_of 909 (by decide +kernel) (by decide +kernel)
theorem u_se_yX5_behindOf : Cond.selects RX5 yX5_behindOf yX5_behindOf ∈ xU := xU_of 34 (by decide +kernel) (by decide +kernel)
theorem u_co_yX5_behindOf : Cond.code yX5_behindOf cX5_behindOf 4 (some .int) ∈ xU := xU_of 910 (by decide +kernel) (by decide +kernel)
theorem u_ml_RL_184 : Cond.methodLink RL 184 yX4_more ∈ xU := xU_of 538 (by decide +kernel) (by decide +kernel)
theorem u_im_yX4_more : Cond.instanceMethod yX4_more ∈ xU := xU_of 539 (by decide +kernel) (by decide +kernel)
theorem u_se_yX4_more : Cond.selects RX4 yX4_more yX4_more ∈ xU := xU_of 540 (by decide +kernel) (by decide +kernel)
theorem u_co_yX4_more : Cond.code yX4_more cX4_more 3 (some .int) ∈ xU := xU_of 541 (by decide +kernel) (by decide +kernel)
theorem u_ml_RX4_208 : Cond.methodLink RX4 208 yX0_hasToken ∈ xU := xU_of 542 (by decide +kernel) (by decide +kernel)
theorem u_im_yX0_hasToken : Cond.instanceMethod yX0_hasToken ∈ xU := xU_of 543 (by decide +kernel) (by decide +kernel)
theorem u_se_yX0_hasToken : Cond.selects RX0 yX0_hasToken yX0_hasToken ∈ xU := xU_of 544 (by decide +kernel) (by decide +kernel)
theorem u_co_yX0_hasToken : Cond.code yX0_hasToken cX0_hasToken 1 (some .boolean) ∈ xU := xU_of 545 (by decide +kernel) (by decide +kernel)
theorem u_ml_RL_187 : Cond.methodLink RL 187 yX5_more ∈ xU := xU_of 911 (by decide +kernel) (by decide +kernel)
theorem u_im_yX5_more : Cond.instanceMethod yX5_more ∈ xU := xU_of 912 (by decide +kernel) (by decide +kernel)
theorem u_se_yX5_more : Cond.selects RX5 yX5_more yX5_more ∈ xU := xU_of 913 (by decide +kernel) (by decide +kernel)
theorem u_co_yX5_more : Cond.code yX5_more cX5_more 2 (some .int) ∈ xU := xU_of 914 (by decide +kernel) (by decide +kernel)
theorem u_ml_RL_188 : Cond.methodLink RL 188 yX4_left ∈ xU := xU_of 546 (by decide +kernel) (by decide +kernel)
theorem u_im_yX4_left : Cond.instanceMethod yX4_left ∈ xU := xU_of 547 (by decide +kernel) (by decide +kernel)
theorem u_se_yX4_left : Cond.selects RX4 yX4_left yX4_left ∈ xU := xU_of 548 (by decide +kernel) (by decide +kernel)
theorem u_co_yX4_left : Cond.code yX4_left cX4_left 3 (some .int) ∈ xU := xU_of 549 (by decide +kernel) (by decide +kernel)
theorem u_ml_RL_191 : Cond.methodLink RL 191 yX5_left ∈ xU := xU_of 915 (by decide +kernel) (by decide +kernel)
theorem u_im_yX5_left : Cond.instanceMethod yX5_left ∈ xU := xU_of 916 (by decide +kernel) (by decide +kernel)
theorem u_se_yX5_left : Cond.selects RX5 yX5_left yX5_left ∈ xU := xU_of 917 (by decide +kernel) (by decide +kernel)
theorem u_co_yX5_left : Cond.code yX5_left cX5_left 2 (some .int) ∈ xU := xU_of 918 (by decide +kernel) (by decide +kernel)
theorem u_ml_RL_192 : Cond.methodLink RL 192 yX4_next ∈ xU := xU_of 550 (by decide +kernel) (by decide +kernel)
theorem u_im_yX4_next : Cond.instanceMethod yX4_next ∈ xU := xU_of 551 (by decide +kernel) (by decide +kernel)
theorem u_se_yX4_next : Cond.selects RX4 yX4_next yX4_next ∈ xU := xU_of 552 (by decide +kernel) (by decide +kernel)
theorem u_co_yX4_next : Cond.code yX4_next cX4_next 5 (some .int) ∈ xU := xU_of 553 (by decide +kernel) (by decide +kernel)
theorem u_ml_RX4_212 : Cond.methodLink RX4 212 yX0_giveToken ∈ xU := xU_of 554 (by decide +kernel) (by decide +kernel)
theorem u_im_yX0_giveToken : Cond.instanceMethod yX0_giveToken ∈ xU := xU_of 555 (by decide +kernel) (by decide +kernel)
theorem u_se_yX0_giveToken : Cond.selects RX0 yX0_giveToken yX0_giveToken ∈ xU := xU_of 556 (by decide +kernel) (by decide +kernel)
theorem u_co_yX0_giveToken : Cond.code yX0_giveToken cX0_giveToken 3 (some .int) ∈ xU := xU_of 557 (by decide +kernel) (by decide +kernel)
theorem u_ml_RX0_54 : Cond.methodLink RX0 54 yX3_become ∈ xU := xU_of 558 (by decide +kernel) (by decide +kernel)
theorem u_ml_RL_195 : Cond.methodLink RL 195 yX5_next ∈ xU := xU_of 919 (by decide +kernel) (by decide +kernel)
theorem u_im_yX5_next : Cond.instanceMethod yX5_next ∈ xU := xU_of 920 (by decide +kernel) (by decide +kernel)
theorem u_se_yX5_next : Cond.selects RX5 yX5_next yX5_next ∈ xU := xU_of 921 (by decide +kernel) (by decide +kernel)
theorem u_co_yX5_next : Cond.code yX5_next cX5_next 3 (some .int) ∈ xU := xU_of 922 (by decide +kernel) (by decide +kernel)
theorem u_ml_RX5_179 : Cond.methodLink RX5 179 yX5_takes ∈ xU := xU_of 923 (by decide +kernel) (by decide +kernel)
theorem u_im_yX5_takes : Cond.instanceMethod yX5_takes ∈ xU := xU_of 925 (by decide +kernel) (by decide +kernel)
theorem u_se_yX5_takes : Cond.selects RX5 yX5_takes yX5_takes ∈ xU := xU_of 35 (by decide +kernel) (by decide +kernel)
theorem u_co_yX5_takes : Cond.code yX5_takes cX5_takes 6 (some .int) ∈ xU := xU_of 926 (by decide +kernel) (by decide +kernel)
theorem u_ml_RL_196 : Cond.methodLink RL 196 yX4_nextBy ∈ xU := xU_of 559 (by decide +kernel) (by decide +kernel)
theorem u_im_yX4_nextBy : Cond.instanceMethod yX4_nextBy ∈ xU := xU_of 560 (by decide +kernel) (by decide +kernel)
theorem u_se_yX4_nextBy : Cond.selects RX4 yX4_nextBy yX4_nextBy ∈ xU := xU_of 561 (by decide +kernel) (by decide +kernel)
theorem u_co_yX4_nextBy : Cond.code yX4_nextBy cX4_nextBy 7 (some .int) ∈ xU := xU_of 562 (by decide +kernel) (by decide +kernel)
theorem u_ml_RX4_216 : Cond.methodLink RX4 216 yX0_separateBy ∈ xU := xU_of 563 (by decide +kernel) (by decide +kernel)
theorem u_ml_RL_199 : Cond.methodLink RL 199 yX5_nextBy ∈ xU := xU_of 927 (by decide +kernel) (by decide +kernel)
theorem u_im_yX5_nextBy : Cond.instanceMethod yX5_nextBy ∈ xU := xU_of 928 (by decide +kernel) (by decide +kernel)
theorem u_se_yX5_nextBy : Cond.selects RX5 yX5_nextBy yX5_nextBy ∈ xU := xU_of 929 (by decide +kernel) (by decide +kernel)
theorem u_co_yX5_nextBy : Cond.code yX5_nextBy cX5_nextBy 4 (some .int) ∈ xU := xU_of 930 (by decide +kernel) (by decide +kernel)
theorem u_ml_RL_200 : Cond.methodLink RL 200 yX4_digest ∈ xU := xU_of 564 (by decide +kernel) (by decide +kernel)
theorem u_im_yX4_digest : Cond.instanceMethod yX4_digest ∈ xU := xU_of 565 (by decide +kernel) (by decide +kernel)
theorem u_se_yX4_digest : Cond.selects RX4 yX4_digest yX4_digest ∈ xU := xU_of 566 (by decide +kernel) (by decide +kernel)
theorem u_co_yX4_digest : Cond.code yX4_digest cX4_digest 5 (some .long) ∈ xU := xU_of 567 (by decide +kernel) (by decide +kernel)
theorem u_ko_RX4_220 : Cond.constantLong RX4 220 (17) ∈ xU := xU_of 568 (by decide +kernel) (by decide +kernel)
theorem u_ml_RX4_222 : Cond.methodLink RX4 222 yX4_mixedRow ∈ xU := xU_of 569 (by decide +kernel) (by decide +kernel)
theorem u_st_yX4_mixedRow : Cond.static yX4_mixedRow ∈ xU := xU_of 570 (by decide +kernel) (by decide +kernel)
theorem u_co_yX4_mixedRow : Cond.code yX4_mixedRow cX4_mixedRow 8 (some .long) ∈ xU := xU_of 571 (by decide +kernel) (by decide +kernel)
theorem u_ml_RX4_226 : Cond.methodLink RX4 226 yX4_mixed ∈ xU := xU_of 572 (by decide +kernel) (by decide +kernel)
theorem u_st_yX4_mixed : Cond.static yX4_mixed ∈ xU := xU_of 573 (by decide +kernel) (by decide +kernel)
theorem u_co_yX4_mixed : Cond.code yX4_mixed cX4_mixed 3 (some .long) ∈ xU := xU_of 574 (by decide +kernel) (by decide +kernel)
theorem u_ko_RX4_230 : Cond.constantLong RX4 230 (31) ∈ xU := xU_of 575 (by decide +kernel) (by decide +kernel)
theorem u_ml_RL_204 : Cond.methodLink RL 204 yX5_digest ∈ xU := xU_of 931 (by decide +kernel) (by decide +kernel)
theorem u_im_yX5_digest : Cond.instanceMethod yX5_digest ∈ xU := xU_of 932 (by decide +kernel) (by decide +kernel)
theorem u_se_yX5_digest : Cond.selects RX5 yX5_digest yX5_digest ∈ xU := xU_of 933 (by decide +kernel) (by decide +kernel)
theorem u_co_yX5_digest : Cond.code yX5_digest cX5_digest 3 (some .long) ∈ xU := xU_of 934 (by decide +kernel) (by decide +kernel)
theorem u_ko_RX5_188 : Cond.constantLong RX5 188 (17) ∈ xU := xU_of 935 (by decide +kernel) (by decide +kernel)
theorem u_fl_RX5_184 : Cond.fieldLink RX5 184 "RowsOfSignsModel" "h" "J" ∈ xU := xU_of 598 (by decide +kernel) (by decide +kernel)
theorem u_ko_RX5_194 : Cond.constantLong RX5 194 (-1) ∈ xU := xU_of 941 (by decide +kernel) (by decide +kernel)
theorem u_ml_RX5_190 : Cond.methodLink RX5 190 yX5_mix ∈ xU := xU_of 936 (by decide +kernel) (by decide +kernel)
theorem u_im_yX5_mix : Cond.instanceMethod yX5_mix ∈ xU := xU_of 938 (by decide +kernel) (by decide +kernel)
theorem u_se_yX5_mix : Cond.selects RX5 yX5_mix yX5_mix ∈ xU := xU_of 36 (by decide +kernel) (by decide +kernel)
theorem u_co_yX5_mix : Cond.code yX5_mix cX5_mix 3 none ∈ xU := xU_of 939 (by decide +kernel) (by decide +kernel)
theorem u_ko_RX5_182 : Cond.constantLong RX5 182 (31) ∈ xU := xU_of 940 (by decide +kernel) (by decide +kernel)
theorem uX0 : ∀ w ∈ wsX00, w ∈ xU := by
  intro w hw
  have h : wsX00 = ([129, 131, 133, 135, 137] : List Nat).filterMap (fun i => lw_tbl[i]?) := by decide +kernel
  have g : wsX00.all goodWord = true := by decide +kernel
  have h2 := hw
  rw [h] at h2
  obtain ⟨i, -, hi⟩ := List.mem_filterMap.mp h2
  exact xU_of i hi (List.all_eq_true.mp g w hw)
theorem uX1 : ∀ w ∈ wsX10, w ∈ xU := by
  intro w hw
  have h : wsX10 = ([90, 92, 94, 96] : List Nat).filterMap (fun i => lw_tbl[i]?) := by decide +kernel
  have g : wsX10.all goodWord = true := by decide +kernel
  have h2 := hw
  rw [h] at h2
  obtain ⟨i, -, hi⟩ := List.mem_filterMap.mp h2
  exact xU_of i hi (List.all_eq_true.mp g w hw)
theorem uX2 : ∀ w ∈ wsX20, w ∈ xU := by
  intro w hw
  have h : wsX20 = ([78, 80] : List Nat).filterMap (fun i => lw_tbl[i]?) := by decide +kernel
  have g : wsX20.all goodWord = true := by decide +kernel
  have h2 := hw
  rw [h] at h2
  obtain ⟨i, -, hi⟩ := List.mem_filterMap.mp h2
  exact xU_of i hi (List.all_eq_true.mp g w hw)
theorem uX3 : ∀ w ∈ wsX30, w ∈ xU := by
  intro w hw
  have h : wsX30 = ([111, 113] : List Nat).filterMap (fun i => lw_tbl[i]?) := by decide +kernel
  have g : wsX30.all goodWord = true := by decide +kernel
  have h2 := hw
  rw [h] at h2
  obtain ⟨i, -, hi⟩ := List.mem_filterMap.mp h2
  exact xU_of i hi (List.all_eq_true.mp g w hw)
theorem uX4 : ∀ w ∈ wsX40, w ∈ xU := by
  intro w hw
  have h : wsX40 = ([153, 155, 157, 159, 161, 163] : List Nat).filterMap (fun i => lw_tbl[i]?) := by decide +kernel
  have g : wsX40.all goodWord = true := by decide +kernel
  have h2 := hw
  rw [h] at h2
  obtain ⟨i, -, hi⟩ := List.mem_filterMap.mp h2
  exact xU_of i hi (List.all_eq_true.mp g w hw)
theorem uX5 : ∀ w ∈ wsX50, w ∈ xU := by
  intro w hw
  have h : wsX50 = ([599, 601, 603, 605, 607, 609, 611, 613, 615, 617, 619, 621, 623, 625, 627, 629, 631] : List Nat).filterMap (fun i => lw_tbl[i]?) := by decide +kernel
  have g : wsX50.all goodWord = true := by decide +kernel
  have h2 := hw
  rw [h] at h2
  obtain ⟨i, -, hi⟩ := List.mem_filterMap.mp h2
  exact xU_of i hi (List.all_eq_true.mp g w hw)
end
section
theorem dX0_init_0 : decode cX0_init 0 = .ok (.aload_n 0, 1) := by decide +kernel
theorem dX0_init_1 : decode cX0_init 1 = .ok (.invokespecial 3, 3) := by decide +kernel
theorem dX0_init_4 : decode cX0_init 4 = .ok (.aload_n 0, 1) := by decide +kernel
theorem dX0_init_5 : decode cX0_init 5 = .ok (.new 9, 3) := by decide +kernel
theorem dX0_init_8 : decode cX0_init 8 = .ok (.dup, 1) := by decide +kernel
theorem dX0_init_9 : decode cX0_init 9 = .ok (.invokespecial 11, 3) := by decide +kernel
theorem dX0_init_12 : decode cX0_init 12 = .ok (.putfield 12, 3) := by decide +kernel
theorem dX0_init_15 : decode cX0_init 15 = .ok (.aload_n 0, 1) := by decide +kernel
theorem dX0_init_16 : decode cX0_init 16 = .ok (.sipush 256, 3) := by decide +kernel
theorem dX0_init_19 : decode cX0_init 19 = .ok (.newarray .boolean, 2) := by decide +kernel
theorem dX0_init_21 : decode cX0_init 21 = .ok (.putfield 18, 3) := by decide +kernel
theorem dX0_init_24 : decode cX0_init 24 = .ok (.aload_n 0, 1) := by decide +kernel
theorem dX0_init_25 : decode cX0_init 25 = .ok (.iconst 1, 1) := by decide +kernel
theorem dX0_init_26 : decode cX0_init 26 = .ok (.putfield 22, 3) := by decide +kernel
theorem dX0_init_29 : decode cX0_init 29 = .ok (.return_, 1) := by decide +kernel
theorem dX0_begin_0 : decode cX0_begin 0 = .ok (.aload_n 0, 1) := by decide +kernel
theorem dX0_begin_1 : decode cX0_begin 1 = .ok (.getfield 12, 3) := by decide +kernel
theorem dX0_begin_4 : decode cX0_begin 4 = .ok (.aload_n 1, 1) := by decide +kernel
theorem dX0_begin_5 : decode cX0_begin 5 = .ok (.iconst 0, 1) := by decide +kernel
theorem dX0_begin_6 : decode cX0_begin 6 = .ok (.aload_n 1, 1) := by decide +kernel
theorem dX0_begin_7 : decode cX0_begin 7 = .ok (.getfield 26, 3) := by decide +kernel
theorem dX0_begin_10 : decode cX0_begin 10 = .ok (.invokevirtual 30, 3) := by decide +kernel
theorem dX0_begin_13 : decode cX0_begin 13 = .ok (.pop, 1) := by decide +kernel
theorem dX0_begin_14 : decode cX0_begin 14 = .ok (.aload_n 0, 1) := by decide +kernel
theorem dX0_begin_15 : decode cX0_begin 15 = .ok (.aload_n 2, 1) := by decide +kernel
theorem dX0_begin_16 : decode cX0_begin 16 = .ok (.invokevirtual 34, 3) := by decide +kernel
theorem dX0_begin_19 : decode cX0_begin 19 = .ok (.aload_n 0, 1) := by decide +kernel
theorem dX0_begin_20 : decode cX0_begin 20 = .ok (.iload_n 3, 1) := by decide +kernel
theorem dX0_begin_21 : decode cX0_begin 21 = .ok (.putfield 38, 3) := by decide +kernel
theorem dX0_begin_24 : decode cX0_begin 24 = .ok (.aload_n 0, 1) := by decide +kernel
theorem dX0_begin_25 : decode cX0_begin 25 = .ok (.iconst 0, 1) := by decide +kernel
theorem dX0_begin_26 : decode cX0_begin 26 = .ok (.putfield 41, 3) := by decide +kernel
theorem dX0_begin_29 : decode cX0_begin 29 = .ok (.aload_n 0, 1) := by decide +kernel
theorem dX0_begin_30 : decode cX0_begin 30 = .ok (.iconst 0, 1) := by decide +kernel
theorem dX0_begin_31 : decode cX0_begin 31 = .ok (.putfield 22, 3) := by decide +kernel
theorem dX0_begin_34 : decode cX0_begin 34 = .ok (.return_, 1) := by decide +kernel
theorem dX0_separateBy_0 : decode cX0_separateBy 0 = .ok (.iconst 0, 1) := by decide +kernel
theorem dX0_separateBy_1 : decode cX0_separateBy 1 = .ok (.istore_n 2, 1) := by decide +kernel
theorem dX0_separateBy_2 : decode cX0_separateBy 2 = .ok (.iload_n 2, 1) := by decide +kernel
theorem dX0_separateBy_3 : decode cX0_separateBy 3 = .ok (.aload_n 0, 1) := by decide +kernel
theorem dX0_separateBy_4 : decode cX0_separateBy 4 = .ok (.getfield 18, 3) := by decide +kernel
theorem dX0_separateBy_7 : decode cX0_separateBy 7 = .ok (.arraylength, 1) := by decide +kernel
theorem dX0_separateBy_8 : decode cX0_separateBy 8 = .ok (.if_icmp .ge 16, 3) := by decide +kernel
theorem dX0_separateBy_11 : decode cX0_separateBy 11 = .ok (.aload_n 0, 1) := by decide +kernel
theorem dX0_separateBy_12 : decode cX0_separateBy 12 = .ok (.getfield 18, 3) := by decide +kernel
theorem dX0_separateBy_15 : decode cX0_separateBy 15 = .ok (.iload_n 2, 1) := by decide +kernel
theorem dX0_separateBy_16 : decode cX0_separateBy 16 = .ok (.iconst 0, 1) := by decide +kernel
theorem dX0_separateBy_17 : decode cX0_separateBy 17 = .ok (.bastore, 1) := by decide +kernel
theorem dX0_separateBy_18 : decode cX0_separateBy 18 = .ok (.iinc 2 1, 3) := by decide +kernel
theorem dX0_separateBy_21 : decode cX0_separateBy 21 = .ok (.goto (-19), 3) := by decide +kernel
theorem dX0_separateBy_24 : decode cX0_separateBy 24 = .ok (.iconst 0, 1) := by decide +kernel
theorem dX0_separateBy_25 : decode cX0_separateBy 25 = .ok (.istore_n 2, 1) := by decide +kernel
theorem dX0_separateBy_26 : decode cX0_separateBy 26 = .ok (.iload_n 2, 1) := by decide +kernel
theorem dX0_separateBy_27 : decode cX0_separateBy 27 = .ok (.aload_n 1, 1) := by decide +kernel
theorem dX0_separateBy_28 : decode cX0_separateBy 28 = .ok (.getfield 26, 3) := by decide +kernel
theorem dX0_separateBy_31 : decode cX0_separateBy 31 = .ok (.if_icmp .ge 35, 3) := by decide +kernel
theorem dX0_separateBy_34 : decode cX0_separateBy 34 = .ok (.aload_n 1, 1) := by decide +kernel
theorem dX0_separateBy_35 : decode cX0_separateBy 35 = .ok (.iload_n 2, 1) := by decide +kernel
theorem dX0_separateBy_36 : decode cX0_separateBy 36 = .ok (.invokevirtual 44, 3) := by decide +kernel
theorem dX0_separateBy_39 : decode cX0_separateBy 39 = .ok (.istore_n 3, 1) := by decide +kernel
theorem dX0_separateBy_40 : decode cX0_separateBy 40 = .ok (.iload_n 3, 1) := by decide +kernel
theorem dX0_separateBy_41 : decode cX0_separateBy 41 = .ok (.ifCond .lt 19, 3) := by decide +kernel
theorem dX0_separateBy_44 : decode cX0_separateBy 44 = .ok (.iload_n 3, 1) := by decide +kernel
theorem dX0_separateBy_45 : decode cX0_separateBy 45 = .ok (.aload_n 0, 1) := by decide +kernel
theorem dX0_separateBy_46 : decode cX0_separateBy 46 = .ok (.getfield 18, 3) := by decide +kernel
theorem dX0_separateBy_49 : decode cX0_separateBy 49 = .ok (.arraylength, 1) := by decide +kernel
theorem dX0_separateBy_50 : decode cX0_separateBy 50 = .ok (.if_icmp .ge 10, 3) := by decide +kernel
theorem dX0_separateBy_53 : decode cX0_separateBy 53 = .ok (.aload_n 0, 1) := by decide +kernel
theorem dX0_separateBy_54 : decode cX0_separateBy 54 = .ok (.getfield 18, 3) := by decide +kernel
theorem dX0_separateBy_57 : decode cX0_separateBy 57 = .ok (.iload_n 3, 1) := by decide +kernel
theorem dX0_separateBy_58 : decode cX0_separateBy 58 = .ok (.iconst 1, 1) := by decide +kernel
theorem dX0_separateBy_59 : decode cX0_separateBy 59 = .ok (.bastore, 1) := by decide +kernel
theorem dX0_separateBy_60 : decode cX0_separateBy 60 = .ok (.iinc 2 1, 3) := by decide +kernel
theorem dX0_separateBy_63 : decode cX0_separateBy 63 = .ok (.goto (-37), 3) := by decide +kernel
theorem dX0_separateBy_66 : decode cX0_separateBy 66 = .ok (.return_, 1) := by decide +kernel
theorem dX0_hasToken_0 : decode cX0_hasToken 0 = .ok (.aload_n 0, 1) := by decide +kernel
theorem dX0_hasToken_1 : decode cX0_hasToken 1 = .ok (.aload_n 0, 1) := by decide +kernel
theorem dX0_hasToken_2 : decode cX0_hasToken 2 = .ok (.getfield 41, 3) := by decide +kernel
theorem dX0_hasToken_5 : decode cX0_hasToken 5 = .ok (.invokevirtual 48, 3) := by decide +kernel
theorem dX0_hasToken_8 : decode cX0_hasToken 8 = .ok (.aload_n 0, 1) := by decide +kernel
theorem dX0_hasToken_9 : decode cX0_hasToken 9 = .ok (.getfield 12, 3) := by decide +kernel
theorem dX0_hasToken_12 : decode cX0_hasToken 12 = .ok (.getfield 26, 3) := by decide +kernel
theorem dX0_hasToken_15 : decode cX0_hasToken 15 = .ok (.if_icmp .ge 7, 3) := by decide +kernel
theorem dX0_hasToken_18 : decode cX0_hasToken 18 = .ok (.iconst 1, 1) := by decide +kernel
theorem dX0_hasToken_19 : decode cX0_hasToken 19 = .ok (.goto 4, 3) := by decide +kernel
theorem dX0_hasToken_22 : decode cX0_hasToken 22 = .ok (.iconst 0, 1) := by decide +kernel
theorem dX0_hasToken_23 : decode cX0_hasToken 23 = .ok (.ireturn, 1) := by decide +kernel
theorem dX0_tokensLeft_0 : decode cX0_tokensLeft 0 = .ok (.aload_n 0, 1) := by decide +kernel
theorem dX0_tokensLeft_1 : decode cX0_tokensLeft 1 = .ok (.aload_n 0, 1) := by decide +kernel
theorem dX0_tokensLeft_2 : decode cX0_tokensLeft 2 = .ok (.getfield 41, 3) := by decide +kernel
theorem dX0_tokensLeft_5 : decode cX0_tokensLeft 5 = .ok (.invokevirtual 48, 3) := by decide +kernel
theorem dX0_tokensLeft_8 : decode cX0_tokensLeft 8 = .ok (.istore_n 1, 1) := by decide +kernel
theorem dX0_tokensLeft_9 : decode cX0_tokensLeft 9 = .ok (.iconst 0, 1) := by decide +kernel
theorem dX0_tokensLeft_10 : decode cX0_tokensLeft 10 = .ok (.istore_n 2, 1) := by decide +kernel
theorem dX0_tokensLeft_11 : decode cX0_tokensLeft 11 = .ok (.iload_n 2, 1) := by decide +kernel
theorem dX0_tokensLeft_12 : decode cX0_tokensLeft 12 = .ok (.sipush 200, 3) := by decide +kernel
theorem dX0_tokensLeft_15 : decode cX0_tokensLeft 15 = .ok (.if_icmp .ge 30, 3) := by decide +kernel
theorem dX0_tokensLeft_18 : decode cX0_tokensLeft 18 = .ok (.iload_n 1, 1) := by decide +kernel
theorem dX0_tokensLeft_19 : decode cX0_tokensLeft 19 = .ok (.aload_n 0, 1) := by decide +kernel
theorem dX0_tokensLeft_20 : decode cX0_tokensLeft 20 = .ok (.getfield 12, 3) := by decide +kernel
theorem dX0_tokensLeft_23 : decode cX0_tokensLeft 23 = .ok (.getfield 26, 3) := by decide +kernel
theorem dX0_tokensLeft_26 : decode cX0_tokensLeft 26 = .ok (.if_icmp .ge 19, 3) := by decide +kernel
theorem dX0_tokensLeft_29 : decode cX0_tokensLeft 29 = .ok (.iinc 2 1, 3) := by decide +kernel
theorem dX0_tokensLeft_32 : decode cX0_tokensLeft 32 = .ok (.aload_n 0, 1) := by decide +kernel
theorem dX0_tokensLeft_33 : decode cX0_tokensLeft 33 = .ok (.aload_n 0, 1) := by decide +kernel
theorem dX0_tokensLeft_34 : decode cX0_tokensLeft 34 = .ok (.iload_n 1, 1) := by decide +kernel
theorem dX0_tokensLeft_35 : decode cX0_tokensLeft 35 = .ok (.invokevirtual 51, 3) := by decide +kernel
theorem dX0_tokensLeft_38 : decode cX0_tokensLeft 38 = .ok (.invokevirtual 48, 3) := by decide +kernel
theorem dX0_tokensLeft_41 : decode cX0_tokensLeft 41 = .ok (.istore_n 1, 1) := by decide +kernel
theorem dX0_tokensLeft_42 : decode cX0_tokensLeft 42 = .ok (.goto (-31), 3) := by decide +kernel
theorem dX0_tokensLeft_45 : decode cX0_tokensLeft 45 = .ok (.iload_n 2, 1) := by decide +kernel
theorem dX0_tokensLeft_46 : decode cX0_tokensLeft 46 = .ok (.ireturn, 1) := by decide +kernel
theorem dX0_giveToken_0 : decode cX0_giveToken 0 = .ok (.aload_n 0, 1) := by decide +kernel
theorem dX0_giveToken_1 : decode cX0_giveToken 1 = .ok (.aload_n 0, 1) := by decide +kernel
theorem dX0_giveToken_2 : decode cX0_giveToken 2 = .ok (.getfield 41, 3) := by decide +kernel
theorem dX0_giveToken_5 : decode cX0_giveToken 5 = .ok (.invokevirtual 48, 3) := by decide +kernel
theorem dX0_giveToken_8 : decode cX0_giveToken 8 = .ok (.istore_n 2, 1) := by decide +kernel
theorem dX0_giveToken_9 : decode cX0_giveToken 9 = .ok (.iload_n 2, 1) := by decide +kernel
theorem dX0_giveToken_10 : decode cX0_giveToken 10 = .ok (.aload_n 0, 1) := by decide +kernel
theorem dX0_giveToken_11 : decode cX0_giveToken 11 = .ok (.getfield 12, 3) := by decide +kernel
theorem dX0_giveToken_14 : decode cX0_giveToken 14 = .ok (.getfield 26, 3) := by decide +kernel
theorem dX0_giveToken_17 : decode cX0_giveToken 17 = .ok (.if_icmp .lt 12, 3) := by decide +kernel
theorem dX0_giveToken_20 : decode cX0_giveToken 20 = .ok (.aload_n 0, 1) := by decide +kernel
theorem dX0_giveToken_21 : decode cX0_giveToken 21 = .ok (.iconst 1, 1) := by decide +kernel
theorem dX0_giveToken_22 : decode cX0_giveToken 22 = .ok (.putfield 22, 3) := by decide +kernel
theorem dX0_giveToken_25 : decode cX0_giveToken 25 = .ok (.sipush (-1006), 3) := by decide +kernel
theorem dX0_giveToken_28 : decode cX0_giveToken 28 = .ok (.ireturn, 1) := by decide +kernel
theorem dX0_giveToken_29 : decode cX0_giveToken 29 = .ok (.aload_n 0, 1) := by decide +kernel
theorem dX0_giveToken_30 : decode cX0_giveToken 30 = .ok (.aload_n 0, 1) := by decide +kernel
theorem dX0_giveToken_31 : decode cX0_giveToken 31 = .ok (.iload_n 2, 1) := by decide +kernel
theorem dX0_giveToken_32 : decode cX0_giveToken 32 = .ok (.invokevirtual 51, 3) := by decide +kernel
theorem dX0_giveToken_35 : decode cX0_giveToken 35 = .ok (.putfield 41, 3) := by decide +kernel
theorem dX0_giveToken_38 : decode cX0_giveToken 38 = .ok (.aload_n 1, 1) := by decide +kernel
theorem dX0_giveToken_39 : decode cX0_giveToken 39 = .ok (.aload_n 0, 1) := by decide +kernel
theorem dX0_giveToken_40 : decode cX0_giveToken 40 = .ok (.getfield 12, 3) := by decide +kernel
theorem dX0_giveToken_43 : decode cX0_giveToken 43 = .ok (.iload_n 2, 1) := by decide +kernel
theorem dX0_giveToken_44 : decode cX0_giveToken 44 = .ok (.aload_n 0, 1) := by decide +kernel
theorem dX0_giveToken_45 : decode cX0_giveToken 45 = .ok (.getfield 41, 3) := by decide +kernel
theorem dX0_giveToken_48 : decode cX0_giveToken 48 = .ok (.invokevirtual 54, 3) := by decide +kernel
theorem dX0_giveToken_51 : decode cX0_giveToken 51 = .ok (.ireturn, 1) := by decide +kernel
theorem dX0_separatesAt_0 : decode cX0_separatesAt 0 = .ok (.aload_n 0, 1) := by decide +kernel
theorem dX0_separatesAt_1 : decode cX0_separatesAt 1 = .ok (.getfield 12, 3) := by decide +kernel
theorem dX0_separatesAt_4 : decode cX0_separatesAt 4 = .ok (.iload_n 1, 1) := by decide +kernel
theorem dX0_separatesAt_5 : decode cX0_separatesAt 5 = .ok (.invokevirtual 44, 3) := by decide +kernel
theorem dX0_separatesAt_8 : decode cX0_separatesAt 8 = .ok (.istore_n 2, 1) := by decide +kernel
theorem dX0_separatesAt_9 : decode cX0_separatesAt 9 = .ok (.iload_n 2, 1) := by decide +kernel
theorem dX0_separatesAt_10 : decode cX0_separatesAt 10 = .ok (.ifCond .lt 25, 3) := by decide +kernel
theorem dX0_separatesAt_13 : decode cX0_separatesAt 13 = .ok (.iload_n 2, 1) := by decide +kernel
theorem dX0_separatesAt_14 : decode cX0_separatesAt 14 = .ok (.aload_n 0, 1) := by decide +kernel
theorem dX0_separatesAt_15 : decode cX0_separatesAt 15 = .ok (.getfield 18, 3) := by decide +kernel
theorem dX0_separatesAt_18 : decode cX0_separatesAt 18 = .ok (.arraylength, 1) := by decide +kernel
theorem dX0_separatesAt_19 : decode cX0_separatesAt 19 = .ok (.if_icmp .ge 16, 3) := by decide +kernel
theorem dX0_separatesAt_22 : decode cX0_separatesAt 22 = .ok (.aload_n 0, 1) := by decide +kernel
theorem dX0_separatesAt_23 : decode cX0_separatesAt 23 = .ok (.getfield 18, 3) := by decide +kernel
theorem dX0_separatesAt_26 : decode cX0_separatesAt 26 = .ok (.iload_n 2, 1) := by decide +kernel
theorem dX0_separatesAt_27 : decode cX0_separatesAt 27 = .ok (.baload, 1) := by decide +kernel
theorem dX0_separatesAt_28 : decode cX0_separatesAt 28 = .ok (.ifCond .eq 7, 3) := by decide +kernel
theorem dX0_separatesAt_31 : decode cX0_separatesAt 31 = .ok (.iconst 1, 1) := by decide +kernel
theorem dX0_separatesAt_32 : decode cX0_separatesAt 32 = .ok (.goto 4, 3) := by decide +kernel
theorem dX0_separatesAt_35 : decode cX0_separatesAt 35 = .ok (.iconst 0, 1) := by decide +kernel
theorem dX0_separatesAt_36 : decode cX0_separatesAt 36 = .ok (.ireturn, 1) := by decide +kernel
theorem dX0_tokenStart_0 : decode cX0_tokenStart 0 = .ok (.iload_n 1, 1) := by decide +kernel
theorem dX0_tokenStart_1 : decode cX0_tokenStart 1 = .ok (.istore_n 2, 1) := by decide +kernel
theorem dX0_tokenStart_2 : decode cX0_tokenStart 2 = .ok (.aload_n 0, 1) := by decide +kernel
theorem dX0_tokenStart_3 : decode cX0_tokenStart 3 = .ok (.getfield 38, 3) := by decide +kernel
theorem dX0_tokenStart_6 : decode cX0_tokenStart 6 = .ok (.ifCond .ne 28, 3) := by decide +kernel
theorem dX0_tokenStart_9 : decode cX0_tokenStart 9 = .ok (.iload_n 2, 1) := by decide +kernel
theorem dX0_tokenStart_10 : decode cX0_tokenStart 10 = .ok (.aload_n 0, 1) := by decide +kernel
theorem dX0_tokenStart_11 : decode cX0_tokenStart 11 = .ok (.getfield 12, 3) := by decide +kernel
theorem dX0_tokenStart_14 : decode cX0_tokenStart 14 = .ok (.getfield 26, 3) := by decide +kernel
theorem dX0_tokenStart_17 : decode cX0_tokenStart 17 = .ok (.if_icmp .ge 17, 3) := by decide +kernel
theorem dX0_tokenStart_20 : decode cX0_tokenStart 20 = .ok (.aload_n 0, 1) := by decide +kernel
theorem dX0_tokenStart_21 : decode cX0_tokenStart 21 = .ok (.iload_n 2, 1) := by decide +kernel
theorem dX0_tokenStart_22 : decode cX0_tokenStart 22 = .ok (.invokevirtual 59, 3) := by decide +kernel
theorem dX0_tokenStart_25 : decode cX0_tokenStart 25 = .ok (.ifCond .eq 9, 3) := by decide +kernel
theorem dX0_tokenStart_28 : decode cX0_tokenStart 28 = .ok (.iinc 2 1, 3) := by decide +kernel
theorem dX0_tokenStart_31 : decode cX0_tokenStart 31 = .ok (.goto (-29), 3) := by decide +kernel
theorem dX0_tokenStart_34 : decode cX0_tokenStart 34 = .ok (.iload_n 2, 1) := by decide +kernel
theorem dX0_tokenStart_35 : decode cX0_tokenStart 35 = .ok (.ireturn, 1) := by decide +kernel
theorem dX0_tokenEnd_0 : decode cX0_tokenEnd 0 = .ok (.iload_n 1, 1) := by decide +kernel
theorem dX0_tokenEnd_1 : decode cX0_tokenEnd 1 = .ok (.iconst 1, 1) := by decide +kernel
theorem dX0_tokenEnd_2 : decode cX0_tokenEnd 2 = .ok (.iadd, 1) := by decide +kernel
theorem dX0_tokenEnd_3 : decode cX0_tokenEnd 3 = .ok (.istore_n 2, 1) := by decide +kernel
theorem dX0_tokenEnd_4 : decode cX0_tokenEnd 4 = .ok (.iload_n 2, 1) := by decide +kernel
theorem dX0_tokenEnd_5 : decode cX0_tokenEnd 5 = .ok (.aload_n 0, 1) := by decide +kernel
theorem dX0_tokenEnd_6 : decode cX0_tokenEnd 6 = .ok (.getfield 12, 3) := by decide +kernel
theorem dX0_tokenEnd_9 : decode cX0_tokenEnd 9 = .ok (.getfield 26, 3) := by decide +kernel
theorem dX0_tokenEnd_12 : decode cX0_tokenEnd 12 = .ok (.if_icmp .ge 25, 3) := by decide +kernel
theorem dX0_tokenEnd_15 : decode cX0_tokenEnd 15 = .ok (.aload_n 0, 1) := by decide +kernel
theorem dX0_tokenEnd_16 : decode cX0_tokenEnd 16 = .ok (.iload_n 1, 1) := by decide +kernel
theorem dX0_tokenEnd_17 : decode cX0_tokenEnd 17 = .ok (.invokevirtual 59, 3) := by decide +kernel
theorem dX0_tokenEnd_20 : decode cX0_tokenEnd 20 = .ok (.ifCond .ne 17, 3) := by decide +kernel
theorem dX0_tokenEnd_23 : decode cX0_tokenEnd 23 = .ok (.aload_n 0, 1) := by decide +kernel
theorem dX0_tokenEnd_24 : decode cX0_tokenEnd 24 = .ok (.iload_n 2, 1) := by decide +kernel
theorem dX0_tokenEnd_25 : decode cX0_tokenEnd 25 = .ok (.invokevirtual 59, 3) := by decide +kernel
theorem dX0_tokenEnd_28 : decode cX0_tokenEnd 28 = .ok (.ifCond .ne 9, 3) := by decide +kernel
theorem dX0_tokenEnd_31 : decode cX0_tokenEnd 31 = .ok (.iinc 2 1, 3) := by decide +kernel
theorem dX0_tokenEnd_34 : decode cX0_tokenEnd 34 = .ok (.goto (-30), 3) := by decide +kernel
theorem dX0_tokenEnd_37 : decode cX0_tokenEnd 37 = .ok (.iload_n 2, 1) := by decide +kernel
theorem dX0_tokenEnd_38 : decode cX0_tokenEnd 38 = .ok (.ireturn, 1) := by decide +kernel
theorem dX1_init_0 : decode cX1_init 0 = .ok (.aload_n 0, 1) := by decide +kernel
theorem dX1_init_1 : decode cX1_init 1 = .ok (.invokespecial 3, 3) := by decide +kernel
theorem dX1_init_4 : decode cX1_init 4 = .ok (.aload_n 0, 1) := by decide +kernel
theorem dX1_init_5 : decode cX1_init 5 = .ok (.new 9, 3) := by decide +kernel
theorem dX1_init_8 : decode cX1_init 8 = .ok (.dup, 1) := by decide +kernel
theorem dX1_init_9 : decode cX1_init 9 = .ok (.invokespecial 11, 3) := by decide +kernel
theorem dX1_init_12 : decode cX1_init 12 = .ok (.putfield 12, 3) := by decide +kernel
theorem dX1_init_15 : decode cX1_init 15 = .ok (.aload_n 0, 1) := by decide +kernel
theorem dX1_init_16 : decode cX1_init 16 = .ok (.sipush 201, 3) := by decide +kernel
theorem dX1_init_19 : decode cX1_init 19 = .ok (.newarray .int, 2) := by decide +kernel
theorem dX1_init_21 : decode cX1_init 21 = .ok (.putfield 18, 3) := by decide +kernel
theorem dX1_init_24 : decode cX1_init 24 = .ok (.aload_n 0, 1) := by decide +kernel
theorem dX1_init_25 : decode cX1_init 25 = .ok (.sipush 201, 3) := by decide +kernel
theorem dX1_init_28 : decode cX1_init 28 = .ok (.newarray .int, 2) := by decide +kernel
theorem dX1_init_30 : decode cX1_init 30 = .ok (.putfield 22, 3) := by decide +kernel
theorem dX1_init_33 : decode cX1_init 33 = .ok (.return_, 1) := by decide +kernel
theorem dX1_has_0 : decode cX1_has 0 = .ok (.iload_n 1, 1) := by decide +kernel
theorem dX1_has_1 : decode cX1_has 1 = .ok (.ifCond .lt 15, 3) := by decide +kernel
theorem dX1_has_4 : decode cX1_has 4 = .ok (.iload_n 1, 1) := by decide +kernel
theorem dX1_has_5 : decode cX1_has 5 = .ok (.aload_n 0, 1) := by decide +kernel
theorem dX1_has_6 : decode cX1_has 6 = .ok (.getfield 25, 3) := by decide +kernel
theorem dX1_has_9 : decode cX1_has 9 = .ok (.if_icmp .ge 7, 3) := by decide +kernel
theorem dX1_has_12 : decode cX1_has 12 = .ok (.iconst 1, 1) := by decide +kernel
theorem dX1_has_13 : decode cX1_has 13 = .ok (.goto 4, 3) := by decide +kernel
theorem dX1_has_16 : decode cX1_has 16 = .ok (.iconst 0, 1) := by decide +kernel
theorem dX1_has_17 : decode cX1_has 17 = .ok (.ireturn, 1) := by decide +kernel
theorem dX1_start_0 : decode cX1_start 0 = .ok (.aload_n 0, 1) := by decide +kernel
theorem dX1_start_1 : decode cX1_start 1 = .ok (.iload_n 1, 1) := by decide +kernel
theorem dX1_start_2 : decode cX1_start 2 = .ok (.invokevirtual 29, 3) := by decide +kernel
theorem dX1_start_5 : decode cX1_start 5 = .ok (.ifCond .eq 12, 3) := by decide +kernel
theorem dX1_start_8 : decode cX1_start 8 = .ok (.aload_n 0, 1) := by decide +kernel
theorem dX1_start_9 : decode cX1_start 9 = .ok (.getfield 18, 3) := by decide +kernel
theorem dX1_start_12 : decode cX1_start 12 = .ok (.iload_n 1, 1) := by decide +kernel
theorem dX1_start_13 : decode cX1_start 13 = .ok (.iaload, 1) := by decide +kernel
theorem dX1_start_14 : decode cX1_start 14 = .ok (.goto 4, 3) := by decide +kernel
theorem dX1_start_17 : decode cX1_start 17 = .ok (.iconst 0, 1) := by decide +kernel
theorem dX1_start_18 : decode cX1_start 18 = .ok (.ireturn, 1) := by decide +kernel
theorem dX1_end_0 : decode cX1_end 0 = .ok (.aload_n 0, 1) := by decide +kernel
theorem dX1_end_1 : decode cX1_end 1 = .ok (.iload_n 1, 1) := by decide +kernel
theorem dX1_end_2 : decode cX1_end 2 = .ok (.invokevirtual 29, 3) := by decide +kernel
theorem dX1_end_5 : decode cX1_end 5 = .ok (.ifCond .eq 12, 3) := by decide +kernel
theorem dX1_end_8 : decode cX1_end 8 = .ok (.aload_n 0, 1) := by decide +kernel
theorem dX1_end_9 : decode cX1_end 9 = .ok (.getfield 22, 3) := by decide +kernel
theorem dX1_end_12 : decode cX1_end 12 = .ok (.iload_n 1, 1) := by decide +kernel
theorem dX1_end_13 : decode cX1_end 13 = .ok (.iaload, 1) := by decide +kernel
theorem dX1_end_14 : decode cX1_end 14 = .ok (.goto 4, 3) := by decide +kernel
theorem dX1_end_17 : decode cX1_end 17 = .ok (.iconst 0, 1) := by decide +kernel
theorem dX1_end_18 : decode cX1_end 18 = .ok (.ireturn, 1) := by decide +kernel
theorem dX1_fall_0 : decode cX1_fall 0 = .ok (.aload_n 0, 1) := by decide +kernel
theorem dX1_fall_1 : decode cX1_fall 1 = .ok (.getfield 12, 3) := by decide +kernel
theorem dX1_fall_4 : decode cX1_fall 4 = .ok (.aload_n 1, 1) := by decide +kernel
theorem dX1_fall_5 : decode cX1_fall 5 = .ok (.iconst 0, 1) := by decide +kernel
theorem dX1_fall_6 : decode cX1_fall 6 = .ok (.aload_n 1, 1) := by decide +kernel
theorem dX1_fall_7 : decode cX1_fall 7 = .ok (.getfield 33, 3) := by decide +kernel
theorem dX1_fall_10 : decode cX1_fall 10 = .ok (.invokevirtual 36, 3) := by decide +kernel
theorem dX1_fall_13 : decode cX1_fall 13 = .ok (.pop, 1) := by decide +kernel
theorem dX1_fall_14 : decode cX1_fall 14 = .ok (.aload_n 0, 1) := by decide +kernel
theorem dX1_fall_15 : decode cX1_fall 15 = .ok (.iconst 0, 1) := by decide +kernel
theorem dX1_fall_16 : decode cX1_fall 16 = .ok (.putfield 25, 3) := by decide +kernel
theorem dX1_fall_19 : decode cX1_fall 19 = .ok (.iconst 0, 1) := by decide +kernel
theorem dX1_fall_20 : decode cX1_fall 20 = .ok (.istore 4, 2) := by decide +kernel
theorem dX1_fall_22 : decode cX1_fall 22 = .ok (.iconst 0, 1) := by decide +kernel
theorem dX1_fall_23 : decode cX1_fall 23 = .ok (.istore 5, 2) := by decide +kernel
theorem dX1_fall_25 : decode cX1_fall 25 = .ok (.iload 5, 2) := by decide +kernel
theorem dX1_fall_27 : decode cX1_fall 27 = .ok (.aload_n 0, 1) := by decide +kernel
theorem dX1_fall_28 : decode cX1_fall 28 = .ok (.getfield 12, 3) := by decide +kernel
theorem dX1_fall_31 : decode cX1_fall 31 = .ok (.getfield 33, 3) := by decide +kernel
theorem dX1_fall_34 : decode cX1_fall 34 = .ok (.if_icmp .ge 44, 3) := by decide +kernel
theorem dX1_fall_37 : decode cX1_fall 37 = .ok (.aload_n 0, 1) := by decide +kernel
theorem dX1_fall_38 : decode cX1_fall 38 = .ok (.getfield 12, 3) := by decide +kernel
theorem dX1_fall_41 : decode cX1_fall 41 = .ok (.iload 5, 2) := by decide +kernel
theorem dX1_fall_43 : decode cX1_fall 43 = .ok (.invokevirtual 40, 3) := by decide +kernel
theorem dX1_fall_46 : decode cX1_fall 46 = .ok (.iload_n 2, 1) := by decide +kernel
theorem dX1_fall_47 : decode cX1_fall 47 = .ok (.if_icmp .ne 25, 3) := by decide +kernel
theorem dX1_fall_50 : decode cX1_fall 50 = .ok (.aload_n 0, 1) := by decide +kernel
theorem dX1_fall_51 : decode cX1_fall 51 = .ok (.iload_n 3, 1) := by decide +kernel
theorem dX1_fall_52 : decode cX1_fall 52 = .ok (.invokevirtual 44, 3) := by decide +kernel
theorem dX1_fall_55 : decode cX1_fall 55 = .ok (.ifCond .eq 17, 3) := by decide +kernel
theorem dX1_fall_58 : decode cX1_fall 58 = .ok (.aload_n 0, 1) := by decide +kernel
theorem dX1_fall_59 : decode cX1_fall 59 = .ok (.iload 4, 2) := by decide +kernel
theorem dX1_fall_61 : decode cX1_fall 61 = .ok (.iload 5, 2) := by decide +kernel
theorem dX1_fall_63 : decode cX1_fall 63 = .ok (.invokevirtual 47, 3) := by decide +kernel
theorem dX1_fall_66 : decode cX1_fall 66 = .ok (.iload 5, 2) := by decide +kernel
theorem dX1_fall_68 : decode cX1_fall 68 = .ok (.iconst 1, 1) := by decide +kernel
theorem dX1_fall_69 : decode cX1_fall 69 = .ok (.iadd, 1) := by decide +kernel
theorem dX1_fall_70 : decode cX1_fall 70 = .ok (.istore 4, 2) := by decide +kernel
theorem dX1_fall_72 : decode cX1_fall 72 = .ok (.iinc 5 1, 3) := by decide +kernel
theorem dX1_fall_75 : decode cX1_fall 75 = .ok (.goto (-50), 3) := by decide +kernel
theorem dX1_fall_78 : decode cX1_fall 78 = .ok (.aload_n 0, 1) := by decide +kernel
theorem dX1_fall_79 : decode cX1_fall 79 = .ok (.iload 4, 2) := by decide +kernel
theorem dX1_fall_81 : decode cX1_fall 81 = .ok (.aload_n 0, 1) := by decide +kernel
theorem dX1_fall_82 : decode cX1_fall 82 = .ok (.getfield 12, 3) := by decide +kernel
theorem dX1_fall_85 : decode cX1_fall 85 = .ok (.getfield 33, 3) := by decide +kernel
theorem dX1_fall_88 : decode cX1_fall 88 = .ok (.invokevirtual 47, 3) := by decide +kernel
theorem dX1_fall_91 : decode cX1_fall 91 = .ok (.iload_n 3, 1) := by decide +kernel
theorem dX1_fall_92 : decode cX1_fall 92 = .ok (.ifCond .ne 15, 3) := by decide +kernel
theorem dX1_fall_95 : decode cX1_fall 95 = .ok (.aload_n 0, 1) := by decide +kernel
theorem dX1_fall_96 : decode cX1_fall 96 = .ok (.getfield 25, 3) := by decide +kernel
theorem dX1_fall_99 : decode cX1_fall 99 = .ok (.iconst 1, 1) := by decide +kernel
theorem dX1_fall_100 : decode cX1_fall 100 = .ok (.if_icmp .le 7, 3) := by decide +kernel
theorem dX1_fall_103 : decode cX1_fall 103 = .ok (.aload_n 0, 1) := by decide +kernel
theorem dX1_fall_104 : decode cX1_fall 104 = .ok (.invokevirtual 51, 3) := by decide +kernel
theorem dX1_fall_107 : decode cX1_fall 107 = .ok (.return_, 1) := by decide +kernel
theorem dX1_mayPart_0 : decode cX1_mayPart 0 = .ok (.iload_n 1, 1) := by decide +kernel
theorem dX1_mayPart_1 : decode cX1_mayPart 1 = .ok (.ifCond .le 13, 3) := by decide +kernel
theorem dX1_mayPart_4 : decode cX1_mayPart 4 = .ok (.aload_n 0, 1) := by decide +kernel
theorem dX1_mayPart_5 : decode cX1_mayPart 5 = .ok (.getfield 25, 3) := by decide +kernel
theorem dX1_mayPart_8 : decode cX1_mayPart 8 = .ok (.iload_n 1, 1) := by decide +kernel
theorem dX1_mayPart_9 : decode cX1_mayPart 9 = .ok (.iconst 1, 1) := by decide +kernel
theorem dX1_mayPart_10 : decode cX1_mayPart 10 = .ok (.isub, 1) := by decide +kernel
theorem dX1_mayPart_11 : decode cX1_mayPart 11 = .ok (.if_icmp .ge 7, 3) := by decide +kernel
theorem dX1_mayPart_14 : decode cX1_mayPart 14 = .ok (.iconst 1, 1) := by decide +kernel
theorem dX1_mayPart_15 : decode cX1_mayPart 15 = .ok (.goto 4, 3) := by decide +kernel
theorem dX1_mayPart_18 : decode cX1_mayPart 18 = .ok (.iconst 0, 1) := by decide +kernel
theorem dX1_mayPart_19 : decode cX1_mayPart 19 = .ok (.ireturn, 1) := by decide +kernel
theorem dX1_addPart_0 : decode cX1_addPart 0 = .ok (.aload_n 0, 1) := by decide +kernel
theorem dX1_addPart_1 : decode cX1_addPart 1 = .ok (.getfield 25, 3) := by decide +kernel
theorem dX1_addPart_4 : decode cX1_addPart 4 = .ok (.aload_n 0, 1) := by decide +kernel
theorem dX1_addPart_5 : decode cX1_addPart 5 = .ok (.getfield 18, 3) := by decide +kernel
theorem dX1_addPart_8 : decode cX1_addPart 8 = .ok (.arraylength, 1) := by decide +kernel
theorem dX1_addPart_9 : decode cX1_addPart 9 = .ok (.if_icmp .ge 45, 3) := by decide +kernel
theorem dX1_addPart_12 : decode cX1_addPart 12 = .ok (.aload_n 0, 1) := by decide +kernel
theorem dX1_addPart_13 : decode cX1_addPart 13 = .ok (.getfield 25, 3) := by decide +kernel
theorem dX1_addPart_16 : decode cX1_addPart 16 = .ok (.aload_n 0, 1) := by decide +kernel
theorem dX1_addPart_17 : decode cX1_addPart 17 = .ok (.getfield 22, 3) := by decide +kernel
theorem dX1_addPart_20 : decode cX1_addPart 20 = .ok (.arraylength, 1) := by decide +kernel
theorem dX1_addPart_21 : decode cX1_addPart 21 = .ok (.if_icmp .ge 33, 3) := by decide +kernel
theorem dX1_addPart_24 : decode cX1_addPart 24 = .ok (.aload_n 0, 1) := by decide +kernel
theorem dX1_addPart_25 : decode cX1_addPart 25 = .ok (.getfield 18, 3) := by decide +kernel
theorem dX1_addPart_28 : decode cX1_addPart 28 = .ok (.aload_n 0, 1) := by decide +kernel
theorem dX1_addPart_29 : decode cX1_addPart 29 = .ok (.getfield 25, 3) := by decide +kernel
theorem dX1_addPart_32 : decode cX1_addPart 32 = .ok (.iload_n 1, 1) := by decide +kernel
theorem dX1_addPart_33 : decode cX1_addPart 33 = .ok (.iastore, 1) := by decide +kernel
theorem dX1_addPart_34 : decode cX1_addPart 34 = .ok (.aload_n 0, 1) := by decide +kernel
theorem dX1_addPart_35 : decode cX1_addPart 35 = .ok (.getfield 22, 3) := by decide +kernel
theorem dX1_addPart_38 : decode cX1_addPart 38 = .ok (.aload_n 0, 1) := by decide +kernel
theorem dX1_addPart_39 : decode cX1_addPart 39 = .ok (.getfield 25, 3) := by decide +kernel
theorem dX1_addPart_42 : decode cX1_addPart 42 = .ok (.iload_n 2, 1) := by decide +kernel
theorem dX1_addPart_43 : decode cX1_addPart 43 = .ok (.iastore, 1) := by decide +kernel
theorem dX1_addPart_44 : decode cX1_addPart 44 = .ok (.aload_n 0, 1) := by decide +kernel
theorem dX1_addPart_45 : decode cX1_addPart 45 = .ok (.dup, 1) := by decide +kernel
theorem dX1_addPart_46 : decode cX1_addPart 46 = .ok (.getfield 25, 3) := by decide +kernel
theorem dX1_addPart_49 : decode cX1_addPart 49 = .ok (.iconst 1, 1) := by decide +kernel
theorem dX1_addPart_50 : decode cX1_addPart 50 = .ok (.iadd, 1) := by decide +kernel
theorem dX1_addPart_51 : decode cX1_addPart 51 = .ok (.putfield 25, 3) := by decide +kernel
theorem dX1_addPart_54 : decode cX1_addPart 54 = .ok (.return_, 1) := by decide +kernel
theorem dX1_dropEmptyEnd_0 : decode cX1_dropEmptyEnd 0 = .ok (.aload_n 0, 1) := by decide +kernel
theorem dX1_dropEmptyEnd_1 : decode cX1_dropEmptyEnd 1 = .ok (.getfield 25, 3) := by decide +kernel
theorem dX1_dropEmptyEnd_4 : decode cX1_dropEmptyEnd 4 = .ok (.iconst 1, 1) := by decide +kernel
theorem dX1_dropEmptyEnd_5 : decode cX1_dropEmptyEnd 5 = .ok (.isub, 1) := by decide +kernel
theorem dX1_dropEmptyEnd_6 : decode cX1_dropEmptyEnd 6 = .ok (.istore_n 1, 1) := by decide +kernel
theorem dX1_dropEmptyEnd_7 : decode cX1_dropEmptyEnd 7 = .ok (.iload_n 1, 1) := by decide +kernel
theorem dX1_dropEmptyEnd_8 : decode cX1_dropEmptyEnd 8 = .ok (.ifCond .lt 27, 3) := by decide +kernel
theorem dX1_dropEmptyEnd_11 : decode cX1_dropEmptyEnd 11 = .ok (.aload_n 0, 1) := by decide +kernel
theorem dX1_dropEmptyEnd_12 : decode cX1_dropEmptyEnd 12 = .ok (.iload_n 1, 1) := by decide +kernel
theorem dX1_dropEmptyEnd_13 : decode cX1_dropEmptyEnd 13 = .ok (.invokevirtual 54, 3) := by decide +kernel
theorem dX1_dropEmptyEnd_16 : decode cX1_dropEmptyEnd 16 = .ok (.aload_n 0, 1) := by decide +kernel
theorem dX1_dropEmptyEnd_17 : decode cX1_dropEmptyEnd 17 = .ok (.iload_n 1, 1) := by decide +kernel
theorem dX1_dropEmptyEnd_18 : decode cX1_dropEmptyEnd 18 = .ok (.invokevirtual 57, 3) := by decide +kernel
theorem dX1_dropEmptyEnd_21 : decode cX1_dropEmptyEnd 21 = .ok (.if_icmp .ne 14, 3) := by decide +kernel
theorem dX1_dropEmptyEnd_24 : decode cX1_dropEmptyEnd 24 = .ok (.aload_n 0, 1) := by decide +kernel
theorem dX1_dropEmptyEnd_25 : decode cX1_dropEmptyEnd 25 = .ok (.iload_n 1, 1) := by decide +kernel
theorem dX1_dropEmptyEnd_26 : decode cX1_dropEmptyEnd 26 = .ok (.putfield 25, 3) := by decide +kernel
theorem dX1_dropEmptyEnd_29 : decode cX1_dropEmptyEnd 29 = .ok (.iinc 1 (-1), 3) := by decide +kernel
theorem dX1_dropEmptyEnd_32 : decode cX1_dropEmptyEnd 32 = .ok (.goto (-25), 3) := by decide +kernel
theorem dX1_dropEmptyEnd_35 : decode cX1_dropEmptyEnd 35 = .ok (.return_, 1) := by decide +kernel
theorem dX2_init_0 : decode cX2_init 0 = .ok (.aload_n 0, 1) := by decide +kernel
theorem dX2_init_1 : decode cX2_init 1 = .ok (.invokespecial 3, 3) := by decide +kernel
theorem dX2_init_4 : decode cX2_init 4 = .ok (.aload_n 0, 1) := by decide +kernel
theorem dX2_init_5 : decode cX2_init 5 = .ok (.sipush 200, 3) := by decide +kernel
theorem dX2_init_8 : decode cX2_init 8 = .ok (.newarray .int, 2) := by decide +kernel
theorem dX2_init_10 : decode cX2_init 10 = .ok (.putfield 9, 3) := by decide +kernel
theorem dX2_init_13 : decode cX2_init 13 = .ok (.return_, 1) := by decide +kernel
theorem dX2_holds_0 : decode cX2_holds 0 = .ok (.iload_n 1, 1) := by decide +kernel
theorem dX2_holds_1 : decode cX2_holds 1 = .ok (.ifCond .lt 15, 3) := by decide +kernel
theorem dX2_holds_4 : decode cX2_holds 4 = .ok (.iload_n 1, 1) := by decide +kernel
theorem dX2_holds_5 : decode cX2_holds 5 = .ok (.aload_n 0, 1) := by decide +kernel
theorem dX2_holds_6 : decode cX2_holds 6 = .ok (.getfield 15, 3) := by decide +kernel
theorem dX2_holds_9 : decode cX2_holds 9 = .ok (.if_icmp .ge 7, 3) := by decide +kernel
theorem dX2_holds_12 : decode cX2_holds 12 = .ok (.iconst 1, 1) := by decide +kernel
theorem dX2_holds_13 : decode cX2_holds 13 = .ok (.goto 4, 3) := by decide +kernel
theorem dX2_holds_16 : decode cX2_holds 16 = .ok (.iconst 0, 1) := by decide +kernel
theorem dX2_holds_17 : decode cX2_holds 17 = .ok (.ireturn, 1) := by decide +kernel
theorem dX2_spans_0 : decode cX2_spans 0 = .ok (.iload_n 1, 1) := by decide +kernel
theorem dX2_spans_1 : decode cX2_spans 1 = .ok (.ifCond .lt 20, 3) := by decide +kernel
theorem dX2_spans_4 : decode cX2_spans 4 = .ok (.iload_n 1, 1) := by decide +kernel
theorem dX2_spans_5 : decode cX2_spans 5 = .ok (.iload_n 2, 1) := by decide +kernel
theorem dX2_spans_6 : decode cX2_spans 6 = .ok (.if_icmp .gt 15, 3) := by decide +kernel
theorem dX2_spans_9 : decode cX2_spans 9 = .ok (.iload_n 2, 1) := by decide +kernel
theorem dX2_spans_10 : decode cX2_spans 10 = .ok (.aload_n 0, 1) := by decide +kernel
theorem dX2_spans_11 : decode cX2_spans 11 = .ok (.getfield 15, 3) := by decide +kernel
theorem dX2_spans_14 : decode cX2_spans 14 = .ok (.if_icmp .gt 7, 3) := by decide +kernel
theorem dX2_spans_17 : decode cX2_spans 17 = .ok (.iconst 1, 1) := by decide +kernel
theorem dX2_spans_18 : decode cX2_spans 18 = .ok (.goto 4, 3) := by decide +kernel
theorem dX2_spans_21 : decode cX2_spans 21 = .ok (.iconst 0, 1) := by decide +kernel
theorem dX2_spans_22 : decode cX2_spans 22 = .ok (.ireturn, 1) := by decide +kernel
theorem dX2_signThere_0 : decode cX2_signThere 0 = .ok (.aload_n 0, 1) := by decide +kernel
theorem dX2_signThere_1 : decode cX2_signThere 1 = .ok (.iload_n 1, 1) := by decide +kernel
theorem dX2_signThere_2 : decode cX2_signThere 2 = .ok (.invokevirtual 19, 3) := by decide +kernel
theorem dX2_signThere_5 : decode cX2_signThere 5 = .ok (.ifCond .eq 12, 3) := by decide +kernel
theorem dX2_signThere_8 : decode cX2_signThere 8 = .ok (.aload_n 0, 1) := by decide +kernel
theorem dX2_signThere_9 : decode cX2_signThere 9 = .ok (.getfield 9, 3) := by decide +kernel
theorem dX2_signThere_12 : decode cX2_signThere 12 = .ok (.iload_n 1, 1) := by decide +kernel
theorem dX2_signThere_13 : decode cX2_signThere 13 = .ok (.iaload, 1) := by decide +kernel
theorem dX2_signThere_14 : decode cX2_signThere 14 = .ok (.goto 4, 3) := by decide +kernel
theorem dX2_signThere_17 : decode cX2_signThere 17 = .ok (.iconst (-1), 1) := by decide +kernel
theorem dX2_signThere_18 : decode cX2_signThere 18 = .ok (.ireturn, 1) := by decide +kernel
theorem dX2_write_0 : decode cX2_write 0 = .ok (.aload_n 0, 1) := by decide +kernel
theorem dX2_write_1 : decode cX2_write 1 = .ok (.iload_n 1, 1) := by decide +kernel
theorem dX2_write_2 : decode cX2_write 2 = .ok (.invokevirtual 19, 3) := by decide +kernel
theorem dX2_write_5 : decode cX2_write 5 = .ok (.ifCond .eq 10, 3) := by decide +kernel
theorem dX2_write_8 : decode cX2_write 8 = .ok (.aload_n 0, 1) := by decide +kernel
theorem dX2_write_9 : decode cX2_write 9 = .ok (.getfield 9, 3) := by decide +kernel
theorem dX2_write_12 : decode cX2_write 12 = .ok (.iload_n 1, 1) := by decide +kernel
theorem dX2_write_13 : decode cX2_write 13 = .ok (.iload_n 2, 1) := by decide +kernel
theorem dX2_write_14 : decode cX2_write 14 = .ok (.iastore, 1) := by decide +kernel
theorem dX2_write_15 : decode cX2_write 15 = .ok (.return_, 1) := by decide +kernel
theorem dX2_writeEach_0 : decode cX2_writeEach 0 = .ok (.iconst 0, 1) := by decide +kernel
theorem dX2_writeEach_1 : decode cX2_writeEach 1 = .ok (.istore_n 3, 1) := by decide +kernel
theorem dX2_writeEach_2 : decode cX2_writeEach 2 = .ok (.iload_n 3, 1) := by decide +kernel
theorem dX2_writeEach_3 : decode cX2_writeEach 3 = .ok (.aload_n 0, 1) := by decide +kernel
theorem dX2_writeEach_4 : decode cX2_writeEach 4 = .ok (.getfield 15, 3) := by decide +kernel
theorem dX2_writeEach_7 : decode cX2_writeEach 7 = .ok (.if_icmp .ge 24, 3) := by decide +kernel
theorem dX2_writeEach_10 : decode cX2_writeEach 10 = .ok (.aload_n 0, 1) := by decide +kernel
theorem dX2_writeEach_11 : decode cX2_writeEach 11 = .ok (.iload_n 3, 1) := by decide +kernel
theorem dX2_writeEach_12 : decode cX2_writeEach 12 = .ok (.invokevirtual 23, 3) := by decide +kernel
theorem dX2_writeEach_15 : decode cX2_writeEach 15 = .ok (.iload_n 1, 1) := by decide +kernel
theorem dX2_writeEach_16 : decode cX2_writeEach 16 = .ok (.if_icmp .ne 9, 3) := by decide +kernel
theorem dX2_writeEach_19 : decode cX2_writeEach 19 = .ok (.aload_n 0, 1) := by decide +kernel
theorem dX2_writeEach_20 : decode cX2_writeEach 20 = .ok (.iload_n 3, 1) := by decide +kernel
theorem dX2_writeEach_21 : decode cX2_writeEach 21 = .ok (.iload_n 2, 1) := by decide +kernel
theorem dX2_writeEach_22 : decode cX2_writeEach 22 = .ok (.invokevirtual 27, 3) := by decide +kernel
theorem dX2_writeEach_25 : decode cX2_writeEach 25 = .ok (.iinc 3 1, 3) := by decide +kernel
theorem dX2_writeEach_28 : decode cX2_writeEach 28 = .ok (.goto (-26), 3) := by decide +kernel
theorem dX2_writeEach_31 : decode cX2_writeEach 31 = .ok (.return_, 1) := by decide +kernel
theorem dX2_clear_0 : decode cX2_clear 0 = .ok (.aload_n 0, 1) := by decide +kernel
theorem dX2_clear_1 : decode cX2_clear 1 = .ok (.iconst 0, 1) := by decide +kernel
theorem dX2_clear_2 : decode cX2_clear 2 = .ok (.putfield 15, 3) := by decide +kernel
theorem dX2_clear_5 : decode cX2_clear 5 = .ok (.return_, 1) := by decide +kernel
theorem dX2_add_0 : decode cX2_add 0 = .ok (.aload_n 0, 1) := by decide +kernel
theorem dX2_add_1 : decode cX2_add 1 = .ok (.getfield 15, 3) := by decide +kernel
theorem dX2_add_4 : decode cX2_add 4 = .ok (.aload_n 0, 1) := by decide +kernel
theorem dX2_add_5 : decode cX2_add 5 = .ok (.getfield 9, 3) := by decide +kernel
theorem dX2_add_8 : decode cX2_add 8 = .ok (.arraylength, 1) := by decide +kernel
theorem dX2_add_9 : decode cX2_add 9 = .ok (.if_icmp .ge 23, 3) := by decide +kernel
theorem dX2_add_12 : decode cX2_add 12 = .ok (.aload_n 0, 1) := by decide +kernel
theorem dX2_add_13 : decode cX2_add 13 = .ok (.getfield 9, 3) := by decide +kernel
theorem dX2_add_16 : decode cX2_add 16 = .ok (.aload_n 0, 1) := by decide +kernel
theorem dX2_add_17 : decode cX2_add 17 = .ok (.getfield 15, 3) := by decide +kernel
theorem dX2_add_20 : decode cX2_add 20 = .ok (.iload_n 1, 1) := by decide +kernel
theorem dX2_add_21 : decode cX2_add 21 = .ok (.iastore, 1) := by decide +kernel
theorem dX2_add_22 : decode cX2_add 22 = .ok (.aload_n 0, 1) := by decide +kernel
theorem dX2_add_23 : decode cX2_add 23 = .ok (.dup, 1) := by decide +kernel
theorem dX2_add_24 : decode cX2_add 24 = .ok (.getfield 15, 3) := by decide +kernel
theorem dX2_add_27 : decode cX2_add 27 = .ok (.iconst 1, 1) := by decide +kernel
theorem dX2_add_28 : decode cX2_add 28 = .ok (.iadd, 1) := by decide +kernel
theorem dX2_add_29 : decode cX2_add 29 = .ok (.putfield 15, 3) := by decide +kernel
theorem dX2_add_32 : decode cX2_add 32 = .ok (.return_, 1) := by decide +kernel
theorem dX2_resize_0 : decode cX2_resize 0 = .ok (.aload_n 0, 1) := by decide +kernel
theorem dX2_resize_1 : decode cX2_resize 1 = .ok (.getfield 15, 3) := by decide +kernel
theorem dX2_resize_4 : decode cX2_resize 4 = .ok (.istore_n 2, 1) := by decide +kernel
theorem dX2_resize_5 : decode cX2_resize 5 = .ok (.iload_n 2, 1) := by decide +kernel
theorem dX2_resize_6 : decode cX2_resize 6 = .ok (.iload_n 1, 1) := by decide +kernel
theorem dX2_resize_7 : decode cX2_resize 7 = .ok (.if_icmp .ge 14, 3) := by decide +kernel
theorem dX2_resize_10 : decode cX2_resize 10 = .ok (.aload_n 0, 1) := by decide +kernel
theorem dX2_resize_11 : decode cX2_resize 11 = .ok (.iconst 0, 1) := by decide +kernel
theorem dX2_resize_12 : decode cX2_resize 12 = .ok (.invokevirtual 31, 3) := by decide +kernel
theorem dX2_resize_15 : decode cX2_resize 15 = .ok (.iinc 2 1, 3) := by decide +kernel
theorem dX2_resize_18 : decode cX2_resize 18 = .ok (.goto (-13), 3) := by decide +kernel
theorem dX2_resize_21 : decode cX2_resize 21 = .ok (.iload_n 1, 1) := by decide +kernel
theorem dX2_resize_22 : decode cX2_resize 22 = .ok (.ifCond .lt 16, 3) := by decide +kernel
theorem dX2_resize_25 : decode cX2_resize 25 = .ok (.iload_n 1, 1) := by decide +kernel
theorem dX2_resize_26 : decode cX2_resize 26 = .ok (.aload_n 0, 1) := by decide +kernel
theorem dX2_resize_27 : decode cX2_resize 27 = .ok (.getfield 15, 3) := by decide +kernel
theorem dX2_resize_30 : decode cX2_resize 30 = .ok (.if_icmp .ge 8, 3) := by decide +kernel
theorem dX2_resize_33 : decode cX2_resize 33 = .ok (.aload_n 0, 1) := by decide +kernel
theorem dX2_resize_34 : decode cX2_resize 34 = .ok (.iload_n 1, 1) := by decide +kernel
theorem dX2_resize_35 : decode cX2_resize 35 = .ok (.putfield 15, 3) := by decide +kernel
theorem dX2_resize_38 : decode cX2_resize 38 = .ok (.return_, 1) := by decide +kernel
theorem dX2_copy_0 : decode cX2_copy 0 = .ok (.aload_n 1, 1) := by decide +kernel
theorem dX2_copy_1 : decode cX2_copy 1 = .ok (.iload_n 2, 1) := by decide +kernel
theorem dX2_copy_2 : decode cX2_copy 2 = .ok (.iload_n 3, 1) := by decide +kernel
theorem dX2_copy_3 : decode cX2_copy 3 = .ok (.invokevirtual 35, 3) := by decide +kernel
theorem dX2_copy_6 : decode cX2_copy 6 = .ok (.ifCond .ne 7, 3) := by decide +kernel
theorem dX2_copy_9 : decode cX2_copy 9 = .ok (.sipush (-1005), 3) := by decide +kernel
theorem dX2_copy_12 : decode cX2_copy 12 = .ok (.ireturn, 1) := by decide +kernel
theorem dX2_copy_13 : decode cX2_copy 13 = .ok (.aload_n 1, 1) := by decide +kernel
theorem dX2_copy_14 : decode cX2_copy 14 = .ok (.getfield 9, 3) := by decide +kernel
theorem dX2_copy_17 : decode cX2_copy 17 = .ok (.iload_n 2, 1) := by decide +kernel
theorem dX2_copy_18 : decode cX2_copy 18 = .ok (.aload_n 0, 1) := by decide +kernel
theorem dX2_copy_19 : decode cX2_copy 19 = .ok (.getfield 9, 3) := by decide +kernel
theorem dX2_copy_22 : decode cX2_copy 22 = .ok (.iconst 0, 1) := by decide +kernel
theorem dX2_copy_23 : decode cX2_copy 23 = .ok (.iload_n 3, 1) := by decide +kernel
theorem dX2_copy_24 : decode cX2_copy 24 = .ok (.iload_n 2, 1) := by decide +kernel
theorem dX2_copy_25 : decode cX2_copy 25 = .ok (.isub, 1) := by decide +kernel
theorem dX2_copy_26 : decode cX2_copy 26 = .ok (.invokestatic 39, 3) := by decide +kernel
theorem dX2_copy_29 : decode cX2_copy 29 = .ok (.aload_n 0, 1) := by decide +kernel
theorem dX2_copy_30 : decode cX2_copy 30 = .ok (.iload_n 3, 1) := by decide +kernel
theorem dX2_copy_31 : decode cX2_copy 31 = .ok (.iload_n 2, 1) := by decide +kernel
theorem dX2_copy_32 : decode cX2_copy 32 = .ok (.isub, 1) := by decide +kernel
theorem dX2_copy_33 : decode cX2_copy 33 = .ok (.putfield 15, 3) := by decide +kernel
theorem dX2_copy_36 : decode cX2_copy 36 = .ok (.aload_n 0, 1) := by decide +kernel
theorem dX2_copy_37 : decode cX2_copy 37 = .ok (.getfield 15, 3) := by decide +kernel
theorem dX2_copy_40 : decode cX2_copy 40 = .ok (.ireturn, 1) := by decide +kernel
theorem dX2_joinIn_0 : decode cX2_joinIn 0 = .ok (.aload_n 0, 1) := by decide +kernel
theorem dX2_joinIn_1 : decode cX2_joinIn 1 = .ok (.iload_n 1, 1) := by decide +kernel
theorem dX2_joinIn_2 : decode cX2_joinIn 2 = .ok (.iload_n 1, 1) := by decide +kernel
theorem dX2_joinIn_3 : decode cX2_joinIn 3 = .ok (.aload_n 2, 1) := by decide +kernel
theorem dX2_joinIn_4 : decode cX2_joinIn 4 = .ok (.iconst 0, 1) := by decide +kernel
theorem dX2_joinIn_5 : decode cX2_joinIn 5 = .ok (.aload_n 2, 1) := by decide +kernel
theorem dX2_joinIn_6 : decode cX2_joinIn 6 = .ok (.getfield 15, 3) := by decide +kernel
theorem dX2_joinIn_9 : decode cX2_joinIn 9 = .ok (.invokevirtual 45, 3) := by decide +kernel
theorem dX2_joinIn_12 : decode cX2_joinIn 12 = .ok (.ireturn, 1) := by decide +kernel
theorem dX2_exchange_0 : decode cX2_exchange 0 = .ok (.aload_n 0, 1) := by decide +kernel
theorem dX2_exchange_1 : decode cX2_exchange 1 = .ok (.iload_n 1, 1) := by decide +kernel
theorem dX2_exchange_2 : decode cX2_exchange 2 = .ok (.iload_n 2, 1) := by decide +kernel
theorem dX2_exchange_3 : decode cX2_exchange 3 = .ok (.aload_n 0, 1) := by decide +kernel
theorem dX2_exchange_4 : decode cX2_exchange 4 = .ok (.getfield 15, 3) := by decide +kernel
theorem dX2_exchange_7 : decode cX2_exchange 7 = .ok (.invokestatic 49, 3) := by decide +kernel
theorem dX2_exchange_10 : decode cX2_exchange 10 = .ok (.aload_n 3, 1) := by decide +kernel
theorem dX2_exchange_11 : decode cX2_exchange 11 = .ok (.iconst 0, 1) := by decide +kernel
theorem dX2_exchange_12 : decode cX2_exchange 12 = .ok (.aload_n 3, 1) := by decide +kernel
theorem dX2_exchange_13 : decode cX2_exchange 13 = .ok (.getfield 15, 3) := by decide +kernel
theorem dX2_exchange_16 : decode cX2_exchange 16 = .ok (.invokevirtual 45, 3) := by decide +kernel
theorem dX2_exchange_19 : decode cX2_exchange 19 = .ok (.ireturn, 1) := by decide +kernel
theorem dX2_change_0 : decode cX2_change 0 = .ok (.aload_n 0, 1) := by decide +kernel
theorem dX2_change_1 : decode cX2_change 1 = .ok (.iload_n 1, 1) := by decide +kernel
theorem dX2_change_2 : decode cX2_change 2 = .ok (.iload_n 2, 1) := by decide +kernel
theorem dX2_change_3 : decode cX2_change 3 = .ok (.invokevirtual 35, 3) := by decide +kernel
theorem dX2_change_6 : decode cX2_change 6 = .ok (.ifCond .eq 14, 3) := by decide +kernel
theorem dX2_change_9 : decode cX2_change 9 = .ok (.aload_n 3, 1) := by decide +kernel
theorem dX2_change_10 : decode cX2_change 10 = .ok (.iload 4, 2) := by decide +kernel
theorem dX2_change_12 : decode cX2_change 12 = .ok (.iload 5, 2) := by decide +kernel
theorem dX2_change_14 : decode cX2_change 14 = .ok (.invokevirtual 35, 3) := by decide +kernel
theorem dX2_change_17 : decode cX2_change 17 = .ok (.ifCond .ne 7, 3) := by decide +kernel
theorem dX2_change_20 : decode cX2_change 20 = .ok (.sipush (-1005), 3) := by decide +kernel
theorem dX2_change_23 : decode cX2_change 23 = .ok (.ireturn, 1) := by decide +kernel
theorem dX2_change_24 : decode cX2_change 24 = .ok (.iload 5, 2) := by decide +kernel
theorem dX2_change_26 : decode cX2_change 26 = .ok (.iload 4, 2) := by decide +kernel
theorem dX2_change_28 : decode cX2_change 28 = .ok (.isub, 1) := by decide +kernel
theorem dX2_change_29 : decode cX2_change 29 = .ok (.istore 6, 2) := by decide +kernel
theorem dX2_change_31 : decode cX2_change 31 = .ok (.aload_n 0, 1) := by decide +kernel
theorem dX2_change_32 : decode cX2_change 32 = .ok (.getfield 15, 3) := by decide +kernel
theorem dX2_change_35 : decode cX2_change 35 = .ok (.iload_n 2, 1) := by decide +kernel
theorem dX2_change_36 : decode cX2_change 36 = .ok (.iload_n 1, 1) := by decide +kernel
theorem dX2_change_37 : decode cX2_change 37 = .ok (.isub, 1) := by decide +kernel
theorem dX2_change_38 : decode cX2_change 38 = .ok (.isub, 1) := by decide +kernel
theorem dX2_change_39 : decode cX2_change 39 = .ok (.iload 6, 2) := by decide +kernel
theorem dX2_change_41 : decode cX2_change 41 = .ok (.iadd, 1) := by decide +kernel
theorem dX2_change_42 : decode cX2_change 42 = .ok (.istore 7, 2) := by decide +kernel
theorem dX2_change_44 : decode cX2_change 44 = .ok (.iload 7, 2) := by decide +kernel
theorem dX2_change_46 : decode cX2_change 46 = .ok (.aload_n 0, 1) := by decide +kernel
theorem dX2_change_47 : decode cX2_change 47 = .ok (.getfield 9, 3) := by decide +kernel
theorem dX2_change_50 : decode cX2_change 50 = .ok (.arraylength, 1) := by decide +kernel
theorem dX2_change_51 : decode cX2_change 51 = .ok (.if_icmp .le 7, 3) := by decide +kernel
theorem dX2_change_54 : decode cX2_change 54 = .ok (.sipush (-1007), 3) := by decide +kernel
theorem dX2_change_57 : decode cX2_change 57 = .ok (.ireturn, 1) := by decide +kernel
theorem dX2_change_58 : decode cX2_change 58 = .ok (.aload_n 0, 1) := by decide +kernel
theorem dX2_change_59 : decode cX2_change 59 = .ok (.getfield 9, 3) := by decide +kernel
theorem dX2_change_62 : decode cX2_change 62 = .ok (.iload_n 2, 1) := by decide +kernel
theorem dX2_change_63 : decode cX2_change 63 = .ok (.aload_n 0, 1) := by decide +kernel
theorem dX2_change_64 : decode cX2_change 64 = .ok (.getfield 9, 3) := by decide +kernel
theorem dX2_change_67 : decode cX2_change 67 = .ok (.iload_n 1, 1) := by decide +kernel
theorem dX2_change_68 : decode cX2_change 68 = .ok (.iload 6, 2) := by decide +kernel
theorem dX2_change_70 : decode cX2_change 70 = .ok (.iadd, 1) := by decide +kernel
theorem dX2_change_71 : decode cX2_change 71 = .ok (.aload_n 0, 1) := by decide +kernel
theorem dX2_change_72 : decode cX2_change 72 = .ok (.getfield 15, 3) := by decide +kernel
theorem dX2_change_75 : decode cX2_change 75 = .ok (.iload_n 2, 1) := by decide +kernel
theorem dX2_change_76 : decode cX2_change 76 = .ok (.isub, 1) := by decide +kernel
theorem dX2_change_77 : decode cX2_change 77 = .ok (.invokestatic 39, 3) := by decide +kernel
theorem dX2_change_80 : decode cX2_change 80 = .ok (.aload_n 3, 1) := by decide +kernel
theorem dX2_change_81 : decode cX2_change 81 = .ok (.getfield 9, 3) := by decide +kernel
theorem dX2_change_84 : decode cX2_change 84 = .ok (.iload 4, 2) := by decide +kernel
theorem dX2_change_86 : decode cX2_change 86 = .ok (.aload_n 0, 1) := by decide +kernel
theorem dX2_change_87 : decode cX2_change 87 = .ok (.getfield 9, 3) := by decide +kernel
theorem dX2_change_90 : decode cX2_change 90 = .ok (.iload_n 1, 1) := by decide +kernel
theorem dX2_change_91 : decode cX2_change 91 = .ok (.iload 6, 2) := by decide +kernel
theorem dX2_change_93 : decode cX2_change 93 = .ok (.invokestatic 39, 3) := by decide +kernel
theorem dX2_change_96 : decode cX2_change 96 = .ok (.aload_n 0, 1) := by decide +kernel
theorem dX2_change_97 : decode cX2_change 97 = .ok (.iload 7, 2) := by decide +kernel
theorem dX2_change_99 : decode cX2_change 99 = .ok (.putfield 15, 3) := by decide +kernel
theorem dX2_change_102 : decode cX2_change 102 = .ok (.aload_n 0, 1) := by decide +kernel
theorem dX2_change_103 : decode cX2_change 103 = .ok (.getfield 15, 3) := by decide +kernel
theorem dX2_change_106 : decode cX2_change 106 = .ok (.ireturn, 1) := by decide +kernel
theorem dX2_turnRound_0 : decode cX2_turnRound 0 = .ok (.iconst 0, 1) := by decide +kernel
theorem dX2_turnRound_1 : decode cX2_turnRound 1 = .ok (.istore_n 1, 1) := by decide +kernel
theorem dX2_turnRound_2 : decode cX2_turnRound 2 = .ok (.aload_n 0, 1) := by decide +kernel
theorem dX2_turnRound_3 : decode cX2_turnRound 3 = .ok (.getfield 15, 3) := by decide +kernel
theorem dX2_turnRound_6 : decode cX2_turnRound 6 = .ok (.iconst 1, 1) := by decide +kernel
theorem dX2_turnRound_7 : decode cX2_turnRound 7 = .ok (.isub, 1) := by decide +kernel
theorem dX2_turnRound_8 : decode cX2_turnRound 8 = .ok (.istore_n 2, 1) := by decide +kernel
theorem dX2_turnRound_9 : decode cX2_turnRound 9 = .ok (.iload_n 1, 1) := by decide +kernel
theorem dX2_turnRound_10 : decode cX2_turnRound 10 = .ok (.iload_n 2, 1) := by decide +kernel
theorem dX2_turnRound_11 : decode cX2_turnRound 11 = .ok (.if_icmp .ge 34, 3) := by decide +kernel
theorem dX2_turnRound_14 : decode cX2_turnRound 14 = .ok (.aload_n 0, 1) := by decide +kernel
theorem dX2_turnRound_15 : decode cX2_turnRound 15 = .ok (.iload_n 1, 1) := by decide +kernel
theorem dX2_turnRound_16 : decode cX2_turnRound 16 = .ok (.invokevirtual 23, 3) := by decide +kernel
theorem dX2_turnRound_19 : decode cX2_turnRound 19 = .ok (.istore_n 3, 1) := by decide +kernel
theorem dX2_turnRound_20 : decode cX2_turnRound 20 = .ok (.aload_n 0, 1) := by decide +kernel
theorem dX2_turnRound_21 : decode cX2_turnRound 21 = .ok (.iload_n 1, 1) := by decide +kernel
theorem dX2_turnRound_22 : decode cX2_turnRound 22 = .ok (.aload_n 0, 1) := by decide +kernel
theorem dX2_turnRound_23 : decode cX2_turnRound 23 = .ok (.iload_n 2, 1) := by decide +kernel
theorem dX2_turnRound_24 : decode cX2_turnRound 24 = .ok (.invokevirtual 23, 3) := by decide +kernel
theorem dX2_turnRound_27 : decode cX2_turnRound 27 = .ok (.invokevirtual 27, 3) := by decide +kernel
theorem dX2_turnRound_30 : decode cX2_turnRound 30 = .ok (.aload_n 0, 1) := by decide +kernel
theorem dX2_turnRound_31 : decode cX2_turnRound 31 = .ok (.iload_n 2, 1) := by decide +kernel
theorem dX2_turnRound_32 : decode cX2_turnRound 32 = .ok (.iload_n 3, 1) := by decide +kernel
theorem dX2_turnRound_33 : decode cX2_turnRound 33 = .ok (.invokevirtual 27, 3) := by decide +kernel
theorem dX2_turnRound_36 : decode cX2_turnRound 36 = .ok (.iinc 1 1, 3) := by decide +kernel
theorem dX2_turnRound_39 : decode cX2_turnRound 39 = .ok (.iinc 2 (-1), 3) := by decide +kernel
theorem dX2_turnRound_42 : decode cX2_turnRound 42 = .ok (.goto (-33), 3) := by decide +kernel
theorem dX2_turnRound_45 : decode cX2_turnRound 45 = .ok (.return_, 1) := by decide +kernel
theorem dX2_hasStanding_0 : decode cX2_hasStanding 0 = .ok (.aload_n 0, 1) := by decide +kernel
theorem dX2_hasStanding_1 : decode cX2_hasStanding 1 = .ok (.iload_n 2, 1) := by decide +kernel
theorem dX2_hasStanding_2 : decode cX2_hasStanding 2 = .ok (.aload_n 1, 1) := by decide +kernel
theorem dX2_hasStanding_3 : decode cX2_hasStanding 3 = .ok (.iconst 0, 1) := by decide +kernel
theorem dX2_hasStanding_4 : decode cX2_hasStanding 4 = .ok (.aload_n 1, 1) := by decide +kernel
theorem dX2_hasStanding_5 : decode cX2_hasStanding 5 = .ok (.getfield 15, 3) := by decide +kernel
theorem dX2_hasStanding_8 : decode cX2_hasStanding 8 = .ok (.invokevirtual 55, 3) := by decide +kernel
theorem dX2_hasStanding_11 : decode cX2_hasStanding 11 = .ok (.ireturn, 1) := by decide +kernel
theorem dX2_sameRegion_0 : decode cX2_sameRegion 0 = .ok (.iload_n 1, 1) := by decide +kernel
theorem dX2_sameRegion_1 : decode cX2_sameRegion 1 = .ok (.ifCond .lt 37, 3) := by decide +kernel
theorem dX2_sameRegion_4 : decode cX2_sameRegion 4 = .ok (.iload_n 3, 1) := by decide +kernel
theorem dX2_sameRegion_5 : decode cX2_sameRegion 5 = .ok (.ifCond .lt 33, 3) := by decide +kernel
theorem dX2_sameRegion_8 : decode cX2_sameRegion 8 = .ok (.iload_n 1, 1) := by decide +kernel
theorem dX2_sameRegion_9 : decode cX2_sameRegion 9 = .ok (.i2l, 1) := by decide +kernel
theorem dX2_sameRegion_10 : decode cX2_sameRegion 10 = .ok (.iload 4, 2) := by decide +kernel
theorem dX2_sameRegion_12 : decode cX2_sameRegion 12 = .ok (.i2l, 1) := by decide +kernel
theorem dX2_sameRegion_13 : decode cX2_sameRegion 13 = .ok (.ladd, 1) := by decide +kernel
theorem dX2_sameRegion_14 : decode cX2_sameRegion 14 = .ok (.aload_n 0, 1) := by decide +kernel
theorem dX2_sameRegion_15 : decode cX2_sameRegion 15 = .ok (.getfield 15, 3) := by decide +kernel
theorem dX2_sameRegion_18 : decode cX2_sameRegion 18 = .ok (.i2l, 1) := by decide +kernel
theorem dX2_sameRegion_19 : decode cX2_sameRegion 19 = .ok (.lcmp, 1) := by decide +kernel
theorem dX2_sameRegion_20 : decode cX2_sameRegion 20 = .ok (.ifCond .gt 18, 3) := by decide +kernel
theorem dX2_sameRegion_23 : decode cX2_sameRegion 23 = .ok (.iload_n 3, 1) := by decide +kernel
theorem dX2_sameRegion_24 : decode cX2_sameRegion 24 = .ok (.i2l, 1) := by decide +kernel
theorem dX2_sameRegion_25 : decode cX2_sameRegion 25 = .ok (.iload 4, 2) := by decide +kernel
theorem dX2_sameRegion_27 : decode cX2_sameRegion 27 = .ok (.i2l, 1) := by decide +kernel
theorem dX2_sameRegion_28 : decode cX2_sameRegion 28 = .ok (.ladd, 1) := by decide +kernel
theorem dX2_sameRegion_29 : decode cX2_sameRegion 29 = .ok (.aload_n 2, 1) := by decide +kernel
theorem dX2_sameRegion_30 : decode cX2_sameRegion 30 = .ok (.getfield 15, 3) := by decide +kernel
theorem dX2_sameRegion_33 : decode cX2_sameRegion 33 = .ok (.i2l, 1) := by decide +kernel
theorem dX2_sameRegion_34 : decode cX2_sameRegion 34 = .ok (.lcmp, 1) := by decide +kernel
theorem dX2_sameRegion_35 : decode cX2_sameRegion 35 = .ok (.ifCond .le 5, 3) := by decide +kernel
theorem dX2_sameRegion_38 : decode cX2_sameRegion 38 = .ok (.iconst 0, 1) := by decide +kernel
theorem dX2_sameRegion_39 : decode cX2_sameRegion 39 = .ok (.ireturn, 1) := by decide +kernel
theorem dX2_sameRegion_40 : decode cX2_sameRegion 40 = .ok (.iconst 0, 1) := by decide +kernel
theorem dX2_sameRegion_41 : decode cX2_sameRegion 41 = .ok (.istore 5, 2) := by decide +kernel
theorem dX2_sameRegion_43 : decode cX2_sameRegion 43 = .ok (.iload 5, 2) := by decide +kernel
theorem dX2_sameRegion_45 : decode cX2_sameRegion 45 = .ok (.iload 4, 2) := by decide +kernel
theorem dX2_sameRegion_47 : decode cX2_sameRegion 47 = .ok (.if_icmp .ge 30, 3) := by decide +kernel
theorem dX2_sameRegion_50 : decode cX2_sameRegion 50 = .ok (.aload_n 0, 1) := by decide +kernel
theorem dX2_sameRegion_51 : decode cX2_sameRegion 51 = .ok (.iload_n 1, 1) := by decide +kernel
theorem dX2_sameRegion_52 : decode cX2_sameRegion 52 = .ok (.iload 5, 2) := by decide +kernel
theorem dX2_sameRegion_54 : decode cX2_sameRegion 54 = .ok (.iadd, 1) := by decide +kernel
theorem dX2_sameRegion_55 : decode cX2_sameRegion 55 = .ok (.invokevirtual 23, 3) := by decide +kernel
theorem dX2_sameRegion_58 : decode cX2_sameRegion 58 = .ok (.aload_n 2, 1) := by decide +kernel
theorem dX2_sameRegion_59 : decode cX2_sameRegion 59 = .ok (.iload_n 3, 1) := by decide +kernel
theorem dX2_sameRegion_60 : decode cX2_sameRegion 60 = .ok (.iload 5, 2) := by decide +kernel
theorem dX2_sameRegion_62 : decode cX2_sameRegion 62 = .ok (.iadd, 1) := by decide +kernel
theorem dX2_sameRegion_63 : decode cX2_sameRegion 63 = .ok (.invokevirtual 23, 3) := by decide +kernel
theorem dX2_sameRegion_66 : decode cX2_sameRegion 66 = .ok (.if_icmp .eq 5, 3) := by decide +kernel
theorem dX2_sameRegion_69 : decode cX2_sameRegion 69 = .ok (.iconst 0, 1) := by decide +kernel
theorem dX2_sameRegion_70 : decode cX2_sameRegion 70 = .ok (.ireturn, 1) := by decide +kernel
theorem dX2_sameRegion_71 : decode cX2_sameRegion 71 = .ok (.iinc 5 1, 3) := by decide +kernel
theorem dX2_sameRegion_74 : decode cX2_sameRegion 74 = .ok (.goto (-31), 3) := by decide +kernel
theorem dX2_sameRegion_77 : decode cX2_sameRegion 77 = .ok (.iconst 1, 1) := by decide +kernel
theorem dX2_sameRegion_78 : decode cX2_sameRegion 78 = .ok (.ireturn, 1) := by decide +kernel
theorem dX2_findForward_0 : decode cX2_findForward 0 = .ok (.iconst 0, 1) := by decide +kernel
theorem dX2_findForward_1 : decode cX2_findForward 1 = .ok (.iload_n 2, 1) := by decide +kernel
theorem dX2_findForward_2 : decode cX2_findForward 2 = .ok (.aload_n 0, 1) := by decide +kernel
theorem dX2_findForward_3 : decode cX2_findForward 3 = .ok (.getfield 15, 3) := by decide +kernel
theorem dX2_findForward_6 : decode cX2_findForward 6 = .ok (.invokestatic 49, 3) := by decide +kernel
theorem dX2_findForward_9 : decode cX2_findForward 9 = .ok (.invokestatic 59, 3) := by decide +kernel
theorem dX2_findForward_12 : decode cX2_findForward 12 = .ok (.istore_n 3, 1) := by decide +kernel
theorem dX2_findForward_13 : decode cX2_findForward 13 = .ok (.iload_n 3, 1) := by decide +kernel
theorem dX2_findForward_14 : decode cX2_findForward 14 = .ok (.aload_n 0, 1) := by decide +kernel
theorem dX2_findForward_15 : decode cX2_findForward 15 = .ok (.getfield 15, 3) := by decide +kernel
theorem dX2_findForward_18 : decode cX2_findForward 18 = .ok (.if_icmp .gt 20, 3) := by decide +kernel
theorem dX2_findForward_21 : decode cX2_findForward 21 = .ok (.aload_n 0, 1) := by decide +kernel
theorem dX2_findForward_22 : decode cX2_findForward 22 = .ok (.aload_n 1, 1) := by decide +kernel
theorem dX2_findForward_23 : decode cX2_findForward 23 = .ok (.iload_n 3, 1) := by decide +kernel
theorem dX2_findForward_24 : decode cX2_findForward 24 = .ok (.invokevirtual 62, 3) := by decide +kernel
theorem dX2_findForward_27 : decode cX2_findForward 27 = .ok (.ifCond .eq 5, 3) := by decide +kernel
theorem dX2_findForward_30 : decode cX2_findForward 30 = .ok (.iload_n 3, 1) := by decide +kernel
theorem dX2_findForward_31 : decode cX2_findForward 31 = .ok (.ireturn, 1) := by decide +kernel
theorem dX2_findForward_32 : decode cX2_findForward 32 = .ok (.iinc 3 1, 3) := by decide +kernel
theorem dX2_findForward_35 : decode cX2_findForward 35 = .ok (.goto (-22), 3) := by decide +kernel
theorem dX2_findForward_38 : decode cX2_findForward 38 = .ok (.iconst (-1), 1) := by decide +kernel
theorem dX2_findForward_39 : decode cX2_findForward 39 = .ok (.ireturn, 1) := by decide +kernel
theorem dX2_findBackward_0 : decode cX2_findBackward 0 = .ok (.iload_n 2, 1) := by decide +kernel
theorem dX2_findBackward_1 : decode cX2_findBackward 1 = .ok (.aload_n 0, 1) := by decide +kernel
theorem dX2_findBackward_2 : decode cX2_findBackward 2 = .ok (.getfield 15, 3) := by decide +kernel
theorem dX2_findBackward_5 : decode cX2_findBackward 5 = .ok (.invokestatic 49, 3) := by decide +kernel
theorem dX2_findBackward_8 : decode cX2_findBackward 8 = .ok (.istore_n 3, 1) := by decide +kernel
theorem dX2_findBackward_9 : decode cX2_findBackward 9 = .ok (.iload_n 3, 1) := by decide +kernel
theorem dX2_findBackward_10 : decode cX2_findBackward 10 = .ok (.ifCond .lt 20, 3) := by decide +kernel
theorem dX2_findBackward_13 : decode cX2_findBackward 13 = .ok (.aload_n 0, 1) := by decide +kernel
theorem dX2_findBackward_14 : decode cX2_findBackward 14 = .ok (.aload_n 1, 1) := by decide +kernel
theorem dX2_findBackward_15 : decode cX2_findBackward 15 = .ok (.iload_n 3, 1) := by decide +kernel
theorem dX2_findBackward_16 : decode cX2_findBackward 16 = .ok (.invokevirtual 62, 3) := by decide +kernel
theorem dX2_findBackward_19 : decode cX2_findBackward 19 = .ok (.ifCond .eq 5, 3) := by decide +kernel
theorem dX2_findBackward_22 : decode cX2_findBackward 22 = .ok (.iload_n 3, 1) := by decide +kernel
theorem dX2_findBackward_23 : decode cX2_findBackward 23 = .ok (.ireturn, 1) := by decide +kernel
theorem dX2_findBackward_24 : decode cX2_findBackward 24 = .ok (.iinc 3 (-1), 3) := by decide +kernel
theorem dX2_findBackward_27 : decode cX2_findBackward 27 = .ok (.goto (-18), 3) := by decide +kernel
theorem dX2_findBackward_30 : decode cX2_findBackward 30 = .ok (.iconst (-1), 1) := by decide +kernel
theorem dX2_findBackward_31 : decode cX2_findBackward 31 = .ok (.ireturn, 1) := by decide +kernel
theorem dX2_signForward_0 : decode cX2_signForward 0 = .ok (.iconst 0, 1) := by decide +kernel
theorem dX2_signForward_1 : decode cX2_signForward 1 = .ok (.iload_n 2, 1) := by decide +kernel
theorem dX2_signForward_2 : decode cX2_signForward 2 = .ok (.invokestatic 59, 3) := by decide +kernel
theorem dX2_signForward_5 : decode cX2_signForward 5 = .ok (.istore_n 3, 1) := by decide +kernel
theorem dX2_signForward_6 : decode cX2_signForward 6 = .ok (.iload_n 3, 1) := by decide +kernel
theorem dX2_signForward_7 : decode cX2_signForward 7 = .ok (.aload_n 0, 1) := by decide +kernel
theorem dX2_signForward_8 : decode cX2_signForward 8 = .ok (.getfield 15, 3) := by decide +kernel
theorem dX2_signForward_11 : decode cX2_signForward 11 = .ok (.if_icmp .ge 20, 3) := by decide +kernel
theorem dX2_signForward_14 : decode cX2_signForward 14 = .ok (.aload_n 0, 1) := by decide +kernel
theorem dX2_signForward_15 : decode cX2_signForward 15 = .ok (.iload_n 3, 1) := by decide +kernel
theorem dX2_signForward_16 : decode cX2_signForward 16 = .ok (.invokevirtual 23, 3) := by decide +kernel
theorem dX2_signForward_19 : decode cX2_signForward 19 = .ok (.iload_n 1, 1) := by decide +kernel
theorem dX2_signForward_20 : decode cX2_signForward 20 = .ok (.if_icmp .ne 5, 3) := by decide +kernel
theorem dX2_signForward_23 : decode cX2_signForward 23 = .ok (.iload_n 3, 1) := by decide +kernel
theorem dX2_signForward_24 : decode cX2_signForward 24 = .ok (.ireturn, 1) := by decide +kernel
theorem dX2_signForward_25 : decode cX2_signForward 25 = .ok (.iinc 3 1, 3) := by decide +kernel
theorem dX2_signForward_28 : decode cX2_signForward 28 = .ok (.goto (-22), 3) := by decide +kernel
theorem dX2_signForward_31 : decode cX2_signForward 31 = .ok (.iconst (-1), 1) := by decide +kernel
theorem dX2_signForward_32 : decode cX2_signForward 32 = .ok (.ireturn, 1) := by decide +kernel
theorem dX2_signBackward_0 : decode cX2_signBackward 0 = .ok (.iload_n 2, 1) := by decide +kernel
theorem dX2_signBackward_1 : decode cX2_signBackward 1 = .ok (.aload_n 0, 1) := by decide +kernel
theorem dX2_signBackward_2 : decode cX2_signBackward 2 = .ok (.getfield 15, 3) := by decide +kernel
theorem dX2_signBackward_5 : decode cX2_signBackward 5 = .ok (.iconst 1, 1) := by decide +kernel
theorem dX2_signBackward_6 : decode cX2_signBackward 6 = .ok (.isub, 1) := by decide +kernel
theorem dX2_signBackward_7 : decode cX2_signBackward 7 = .ok (.invokestatic 49, 3) := by decide +kernel
theorem dX2_signBackward_10 : decode cX2_signBackward 10 = .ok (.istore_n 3, 1) := by decide +kernel
theorem dX2_signBackward_11 : decode cX2_signBackward 11 = .ok (.iload_n 3, 1) := by decide +kernel
theorem dX2_signBackward_12 : decode cX2_signBackward 12 = .ok (.ifCond .lt 20, 3) := by decide +kernel
theorem dX2_signBackward_15 : decode cX2_signBackward 15 = .ok (.aload_n 0, 1) := by decide +kernel
theorem dX2_signBackward_16 : decode cX2_signBackward 16 = .ok (.iload_n 3, 1) := by decide +kernel
theorem dX2_signBackward_17 : decode cX2_signBackward 17 = .ok (.invokevirtual 23, 3) := by decide +kernel
theorem dX2_signBackward_20 : decode cX2_signBackward 20 = .ok (.iload_n 1, 1) := by decide +kernel
theorem dX2_signBackward_21 : decode cX2_signBackward 21 = .ok (.if_icmp .ne 5, 3) := by decide +kernel
theorem dX2_signBackward_24 : decode cX2_signBackward 24 = .ok (.iload_n 3, 1) := by decide +kernel
theorem dX2_signBackward_25 : decode cX2_signBackward 25 = .ok (.ireturn, 1) := by decide +kernel
theorem dX2_signBackward_26 : decode cX2_signBackward 26 = .ok (.iinc 3 (-1), 3) := by decide +kernel
theorem dX2_signBackward_29 : decode cX2_signBackward 29 = .ok (.goto (-18), 3) := by decide +kernel
theorem dX2_signBackward_32 : decode cX2_signBackward 32 = .ok (.iconst (-1), 1) := by decide +kernel
theorem dX2_signBackward_33 : decode cX2_signBackward 33 = .ok (.ireturn, 1) := by decide +kernel
theorem dX2_against_0 : decode cX2_against 0 = .ok (.aload_n 0, 1) := by decide +kernel
theorem dX2_against_1 : decode cX2_against 1 = .ok (.getfield 15, 3) := by decide +kernel
theorem dX2_against_4 : decode cX2_against 4 = .ok (.aload_n 1, 1) := by decide +kernel
theorem dX2_against_5 : decode cX2_against 5 = .ok (.getfield 15, 3) := by decide +kernel
theorem dX2_against_8 : decode cX2_against 8 = .ok (.invokestatic 49, 3) := by decide +kernel
theorem dX2_against_11 : decode cX2_against 11 = .ok (.istore_n 2, 1) := by decide +kernel
theorem dX2_against_12 : decode cX2_against 12 = .ok (.iconst 0, 1) := by decide +kernel
theorem dX2_against_13 : decode cX2_against 13 = .ok (.istore_n 3, 1) := by decide +kernel
theorem dX2_against_14 : decode cX2_against 14 = .ok (.iload_n 3, 1) := by decide +kernel
theorem dX2_against_15 : decode cX2_against 15 = .ok (.iload_n 2, 1) := by decide +kernel
theorem dX2_against_16 : decode cX2_against 16 = .ok (.if_icmp .ge 30, 3) := by decide +kernel
theorem dX2_against_19 : decode cX2_against 19 = .ok (.aload_n 0, 1) := by decide +kernel
theorem dX2_against_20 : decode cX2_against 20 = .ok (.iload_n 3, 1) := by decide +kernel
theorem dX2_against_21 : decode cX2_against 21 = .ok (.invokevirtual 23, 3) := by decide +kernel
theorem dX2_against_24 : decode cX2_against 24 = .ok (.aload_n 1, 1) := by decide +kernel
theorem dX2_against_25 : decode cX2_against 25 = .ok (.iload_n 3, 1) := by decide +kernel
theorem dX2_against_26 : decode cX2_against 26 = .ok (.invokevirtual 23, 3) := by decide +kernel
theorem dX2_against_29 : decode cX2_against 29 = .ok (.isub, 1) := by decide +kernel
theorem dX2_against_30 : decode cX2_against 30 = .ok (.istore 4, 2) := by decide +kernel
theorem dX2_against_32 : decode cX2_against 32 = .ok (.iload 4, 2) := by decide +kernel
theorem dX2_against_34 : decode cX2_against 34 = .ok (.ifCond .eq 6, 3) := by decide +kernel
theorem dX2_against_37 : decode cX2_against 37 = .ok (.iload 4, 2) := by decide +kernel
theorem dX2_against_39 : decode cX2_against 39 = .ok (.ireturn, 1) := by decide +kernel
theorem dX2_against_40 : decode cX2_against 40 = .ok (.iinc 3 1, 3) := by decide +kernel
theorem dX2_against_43 : decode cX2_against 43 = .ok (.goto (-29), 3) := by decide +kernel
theorem dX2_against_46 : decode cX2_against 46 = .ok (.aload_n 0, 1) := by decide +kernel
theorem dX2_against_47 : decode cX2_against 47 = .ok (.getfield 15, 3) := by decide +kernel
theorem dX2_against_50 : decode cX2_against 50 = .ok (.aload_n 1, 1) := by decide +kernel
theorem dX2_against_51 : decode cX2_against 51 = .ok (.getfield 15, 3) := by decide +kernel
theorem dX2_against_54 : decode cX2_against 54 = .ok (.isub, 1) := by decide +kernel
theorem dX2_against_55 : decode cX2_against 55 = .ok (.ireturn, 1) := by decide +kernel
theorem dX2_blanksAhead_0 : decode cX2_blanksAhead 0 = .ok (.iconst 0, 1) := by decide +kernel
theorem dX2_blanksAhead_1 : decode cX2_blanksAhead 1 = .ok (.istore_n 1, 1) := by decide +kernel
theorem dX2_blanksAhead_2 : decode cX2_blanksAhead 2 = .ok (.iload_n 1, 1) := by decide +kernel
theorem dX2_blanksAhead_3 : decode cX2_blanksAhead 3 = .ok (.aload_n 0, 1) := by decide +kernel
theorem dX2_blanksAhead_4 : decode cX2_blanksAhead 4 = .ok (.getfield 15, 3) := by decide +kernel
theorem dX2_blanksAhead_7 : decode cX2_blanksAhead 7 = .ok (.if_icmp .ge 19, 3) := by decide +kernel
theorem dX2_blanksAhead_10 : decode cX2_blanksAhead 10 = .ok (.aload_n 0, 1) := by decide +kernel
theorem dX2_blanksAhead_11 : decode cX2_blanksAhead 11 = .ok (.iload_n 1, 1) := by decide +kernel
theorem dX2_blanksAhead_12 : decode cX2_blanksAhead 12 = .ok (.invokevirtual 23, 3) := by decide +kernel
theorem dX2_blanksAhead_15 : decode cX2_blanksAhead 15 = .ok (.bipush 32, 2) := by decide +kernel
theorem dX2_blanksAhead_17 : decode cX2_blanksAhead 17 = .ok (.if_icmp .gt 9, 3) := by decide +kernel
theorem dX2_blanksAhead_20 : decode cX2_blanksAhead 20 = .ok (.iinc 1 1, 3) := by decide +kernel
theorem dX2_blanksAhead_23 : decode cX2_blanksAhead 23 = .ok (.goto (-21), 3) := by decide +kernel
theorem dX2_blanksAhead_26 : decode cX2_blanksAhead 26 = .ok (.iload_n 1, 1) := by decide +kernel
theorem dX2_blanksAhead_27 : decode cX2_blanksAhead 27 = .ok (.ireturn, 1) := by decide +kernel
theorem dX2_endBeforeBlanks_0 : decode cX2_endBeforeBlanks 0 = .ok (.aload_n 0, 1) := by decide +kernel
theorem dX2_endBeforeBlanks_1 : decode cX2_endBeforeBlanks 1 = .ok (.getfield 15, 3) := by decide +kernel
theorem dX2_endBeforeBlanks_4 : decode cX2_endBeforeBlanks 4 = .ok (.istore_n 2, 1) := by decide +kernel
theorem dX2_endBeforeBlanks_5 : decode cX2_endBeforeBlanks 5 = .ok (.iload_n 2, 1) := by decide +kernel
theorem dX2_endBeforeBlanks_6 : decode cX2_endBeforeBlanks 6 = .ok (.iload_n 1, 1) := by decide +kernel
theorem dX2_endBeforeBlanks_7 : decode cX2_endBeforeBlanks 7 = .ok (.if_icmp .le 21, 3) := by decide +kernel
theorem dX2_endBeforeBlanks_10 : decode cX2_endBeforeBlanks 10 = .ok (.aload_n 0, 1) := by decide +kernel
theorem dX2_endBeforeBlanks_11 : decode cX2_endBeforeBlanks 11 = .ok (.iload_n 2, 1) := by decide +kernel
theorem dX2_endBeforeBlanks_12 : decode cX2_endBeforeBlanks 12 = .ok (.iconst 1, 1) := by decide +kernel
theorem dX2_endBeforeBlanks_13 : decode cX2_endBeforeBlanks 13 = .ok (.isub, 1) := by decide +kernel
theorem dX2_endBeforeBlanks_14 : decode cX2_endBeforeBlanks 14 = .ok (.invokevirtual 23, 3) := by decide +kernel
theorem dX2_endBeforeBlanks_17 : decode cX2_endBeforeBlanks 17 = .ok (.bipush 32, 2) := by decide +kernel
theorem dX2_endBeforeBlanks_19 : decode cX2_endBeforeBlanks 19 = .ok (.if_icmp .gt 9, 3) := by decide +kernel
theorem dX2_endBeforeBlanks_22 : decode cX2_endBeforeBlanks 22 = .ok (.iinc 2 (-1), 3) := by decide +kernel
theorem dX2_endBeforeBlanks_25 : decode cX2_endBeforeBlanks 25 = .ok (.goto (-20), 3) := by decide +kernel
theorem dX2_endBeforeBlanks_28 : decode cX2_endBeforeBlanks 28 = .ok (.iload_n 2, 1) := by decide +kernel
theorem dX2_endBeforeBlanks_29 : decode cX2_endBeforeBlanks 29 = .ok (.ireturn, 1) := by decide +kernel
theorem dX3_init_0 : decode cX3_init 0 = .ok (.aload_n 0, 1) := by decide +kernel
theorem dX3_init_1 : decode cX3_init 1 = .ok (.invokespecial 1, 3) := by decide +kernel
theorem dX3_init_4 : decode cX3_init 4 = .ok (.aload_n 0, 1) := by decide +kernel
theorem dX3_init_5 : decode cX3_init 5 = .ok (.new 7, 3) := by decide +kernel
theorem dX3_init_8 : decode cX3_init 8 = .ok (.dup, 1) := by decide +kernel
theorem dX3_init_9 : decode cX3_init 9 = .ok (.invokespecial 9, 3) := by decide +kernel
theorem dX3_init_12 : decode cX3_init 12 = .ok (.putfield 10, 3) := by decide +kernel
theorem dX3_init_15 : decode cX3_init 15 = .ok (.aload_n 0, 1) := by decide +kernel
theorem dX3_init_16 : decode cX3_init 16 = .ok (.iconst 1, 1) := by decide +kernel
theorem dX3_init_17 : decode cX3_init 17 = .ok (.putfield 16, 3) := by decide +kernel
theorem dX3_init_20 : decode cX3_init 20 = .ok (.return_, 1) := by decide +kernel
theorem dX3_become_0 : decode cX3_become 0 = .ok (.aload_n 0, 1) := by decide +kernel
theorem dX3_become_1 : decode cX3_become 1 = .ok (.getfield 10, 3) := by decide +kernel
theorem dX3_become_4 : decode cX3_become 4 = .ok (.aload_n 1, 1) := by decide +kernel
theorem dX3_become_5 : decode cX3_become 5 = .ok (.iload_n 2, 1) := by decide +kernel
theorem dX3_become_6 : decode cX3_become 6 = .ok (.iload_n 3, 1) := by decide +kernel
theorem dX3_become_7 : decode cX3_become 7 = .ok (.invokevirtual 20, 3) := by decide +kernel
theorem dX3_become_10 : decode cX3_become 10 = .ok (.istore 4, 2) := by decide +kernel
theorem dX3_become_12 : decode cX3_become 12 = .ok (.iload 4, 2) := by decide +kernel
theorem dX3_become_14 : decode cX3_become 14 = .ok (.ifCond .lt 8, 3) := by decide +kernel
theorem dX3_become_17 : decode cX3_become 17 = .ok (.aload_n 0, 1) := by decide +kernel
theorem dX3_become_18 : decode cX3_become 18 = .ok (.iconst 0, 1) := by decide +kernel
theorem dX3_become_19 : decode cX3_become 19 = .ok (.putfield 16, 3) := by decide +kernel
theorem dX3_become_22 : decode cX3_become 22 = .ok (.iload 4, 2) := by decide +kernel
theorem dX3_become_24 : decode cX3_become 24 = .ok (.ireturn, 1) := by decide +kernel
theorem dX4_init_0 : decode cX4_init 0 = .ok (.aload_n 0, 1) := by decide +kernel
theorem dX4_init_1 : decode cX4_init 1 = .ok (.invokespecial 3, 3) := by decide +kernel
theorem dX4_init_4 : decode cX4_init 4 = .ok (.aload_n 0, 1) := by decide +kernel
theorem dX4_init_5 : decode cX4_init 5 = .ok (.iconst 4, 1) := by decide +kernel
theorem dX4_init_6 : decode cX4_init 6 = .ok (.anewarray 9, 3) := by decide +kernel
theorem dX4_init_9 : decode cX4_init 9 = .ok (.putfield 11, 3) := by decide +kernel
theorem dX4_init_12 : decode cX4_init 12 = .ok (.aload_n 0, 1) := by decide +kernel
theorem dX4_init_13 : decode cX4_init 13 = .ok (.bipush 8, 2) := by decide +kernel
theorem dX4_init_15 : decode cX4_init 15 = .ok (.anewarray 15, 3) := by decide +kernel
theorem dX4_init_18 : decode cX4_init 18 = .ok (.putfield 17, 3) := by decide +kernel
theorem dX4_init_21 : decode cX4_init 21 = .ok (.aload_n 0, 1) := by decide +kernel
theorem dX4_init_22 : decode cX4_init 22 = .ok (.iconst 2, 1) := by decide +kernel
theorem dX4_init_23 : decode cX4_init 23 = .ok (.anewarray 21, 3) := by decide +kernel
theorem dX4_init_26 : decode cX4_init 26 = .ok (.putfield 23, 3) := by decide +kernel
theorem dX4_init_29 : decode cX4_init 29 = .ok (.aload_n 0, 1) := by decide +kernel
theorem dX4_init_30 : decode cX4_init 30 = .ok (.new 27, 3) := by decide +kernel
theorem dX4_init_33 : decode cX4_init 33 = .ok (.dup, 1) := by decide +kernel
theorem dX4_init_34 : decode cX4_init 34 = .ok (.invokespecial 29, 3) := by decide +kernel
theorem dX4_init_37 : decode cX4_init 37 = .ok (.putfield 30, 3) := by decide +kernel
theorem dX4_init_40 : decode cX4_init 40 = .ok (.aload_n 0, 1) := by decide +kernel
theorem dX4_init_41 : decode cX4_init 41 = .ok (.new 9, 3) := by decide +kernel
theorem dX4_init_44 : decode cX4_init 44 = .ok (.dup, 1) := by decide +kernel
theorem dX4_init_45 : decode cX4_init 45 = .ok (.invokespecial 34, 3) := by decide +kernel
theorem dX4_init_48 : decode cX4_init 48 = .ok (.putfield 35, 3) := by decide +kernel
theorem dX4_init_51 : decode cX4_init 51 = .ok (.aload_n 0, 1) := by decide +kernel
theorem dX4_init_52 : decode cX4_init 52 = .ok (.new 9, 3) := by decide +kernel
theorem dX4_init_55 : decode cX4_init 55 = .ok (.dup, 1) := by decide +kernel
theorem dX4_init_56 : decode cX4_init 56 = .ok (.invokespecial 34, 3) := by decide +kernel
theorem dX4_init_59 : decode cX4_init 59 = .ok (.putfield 39, 3) := by decide +kernel
theorem dX4_init_62 : decode cX4_init 62 = .ok (.iconst 0, 1) := by decide +kernel
theorem dX4_init_63 : decode cX4_init 63 = .ok (.istore_n 1, 1) := by decide +kernel
theorem dX4_init_64 : decode cX4_init 64 = .ok (.iload_n 1, 1) := by decide +kernel
theorem dX4_init_65 : decode cX4_init 65 = .ok (.aload_n 0, 1) := by decide +kernel
theorem dX4_init_66 : decode cX4_init 66 = .ok (.getfield 11, 3) := by decide +kernel
theorem dX4_init_69 : decode cX4_init 69 = .ok (.arraylength, 1) := by decide +kernel
theorem dX4_init_70 : decode cX4_init 70 = .ok (.if_icmp .ge 22, 3) := by decide +kernel
theorem dX4_init_73 : decode cX4_init 73 = .ok (.aload_n 0, 1) := by decide +kernel
theorem dX4_init_74 : decode cX4_init 74 = .ok (.getfield 11, 3) := by decide +kernel
theorem dX4_init_77 : decode cX4_init 77 = .ok (.iload_n 1, 1) := by decide +kernel
theorem dX4_init_78 : decode cX4_init 78 = .ok (.new 9, 3) := by decide +kernel
theorem dX4_init_81 : decode cX4_init 81 = .ok (.dup, 1) := by decide +kernel
theorem dX4_init_82 : decode cX4_init 82 = .ok (.invokespecial 34, 3) := by decide +kernel
theorem dX4_init_85 : decode cX4_init 85 = .ok (.aastore, 1) := by decide +kernel
theorem dX4_init_86 : decode cX4_init 86 = .ok (.iinc 1 1, 3) := by decide +kernel
theorem dX4_init_89 : decode cX4_init 89 = .ok (.goto (-25), 3) := by decide +kernel
theorem dX4_init_92 : decode cX4_init 92 = .ok (.iconst 0, 1) := by decide +kernel
theorem dX4_init_93 : decode cX4_init 93 = .ok (.istore_n 1, 1) := by decide +kernel
theorem dX4_init_94 : decode cX4_init 94 = .ok (.iload_n 1, 1) := by decide +kernel
theorem dX4_init_95 : decode cX4_init 95 = .ok (.aload_n 0, 1) := by decide +kernel
theorem dX4_init_96 : decode cX4_init 96 = .ok (.getfield 17, 3) := by decide +kernel
theorem dX4_init_99 : decode cX4_init 99 = .ok (.arraylength, 1) := by decide +kernel
theorem dX4_init_100 : decode cX4_init 100 = .ok (.if_icmp .ge 22, 3) := by decide +kernel
theorem dX4_init_103 : decode cX4_init 103 = .ok (.aload_n 0, 1) := by decide +kernel
theorem dX4_init_104 : decode cX4_init 104 = .ok (.getfield 17, 3) := by decide +kernel
theorem dX4_init_107 : decode cX4_init 107 = .ok (.iload_n 1, 1) := by decide +kernel
theorem dX4_init_108 : decode cX4_init 108 = .ok (.new 15, 3) := by decide +kernel
theorem dX4_init_111 : decode cX4_init 111 = .ok (.dup, 1) := by decide +kernel
theorem dX4_init_112 : decode cX4_init 112 = .ok (.invokespecial 42, 3) := by decide +kernel
theorem dX4_init_115 : decode cX4_init 115 = .ok (.aastore, 1) := by decide +kernel
theorem dX4_init_116 : decode cX4_init 116 = .ok (.iinc 1 1, 3) := by decide +kernel
theorem dX4_init_119 : decode cX4_init 119 = .ok (.goto (-25), 3) := by decide +kernel
theorem dX4_init_122 : decode cX4_init 122 = .ok (.iconst 0, 1) := by decide +kernel
theorem dX4_init_123 : decode cX4_init 123 = .ok (.istore_n 1, 1) := by decide +kernel
theorem dX4_init_124 : decode cX4_init 124 = .ok (.iload_n 1, 1) := by decide +kernel
theorem dX4_init_125 : decode cX4_init 125 = .ok (.aload_n 0, 1) := by decide +kernel
theorem dX4_init_126 : decode cX4_init 126 = .ok (.getfield 23, 3) := by decide +kernel
theorem dX4_init_129 : decode cX4_init 129 = .ok (.arraylength, 1) := by decide +kernel
theorem dX4_init_130 : decode cX4_init 130 = .ok (.if_icmp .ge 22, 3) := by decide +kernel
theorem dX4_init_133 : decode cX4_init 133 = .ok (.aload_n 0, 1) := by decide +kernel
theorem dX4_init_134 : decode cX4_init 134 = .ok (.getfield 23, 3) := by decide +kernel
theorem dX4_init_137 : decode cX4_init 137 = .ok (.iload_n 1, 1) := by decide +kernel
theorem dX4_init_138 : decode cX4_init 138 = .ok (.new 21, 3) := by decide +kernel
theorem dX4_init_141 : decode cX4_init 141 = .ok (.dup, 1) := by decide +kernel
theorem dX4_init_142 : decode cX4_init 142 = .ok (.invokespecial 43, 3) := by decide +kernel
theorem dX4_init_145 : decode cX4_init 145 = .ok (.aastore, 1) := by decide +kernel
theorem dX4_init_146 : decode cX4_init 146 = .ok (.iinc 1 1, 3) := by decide +kernel
theorem dX4_init_149 : decode cX4_init 149 = .ok (.goto (-25), 3) := by decide +kernel
theorem dX4_init_152 : decode cX4_init 152 = .ok (.iconst 0, 1) := by decide +kernel
theorem dX4_init_153 : decode cX4_init 153 = .ok (.istore_n 1, 1) := by decide +kernel
theorem dX4_init_154 : decode cX4_init 154 = .ok (.iload_n 1, 1) := by decide +kernel
theorem dX4_init_155 : decode cX4_init 155 = .ok (.getstatic 44, 3) := by decide +kernel
theorem dX4_init_158 : decode cX4_init 158 = .ok (.arraylength, 1) := by decide +kernel
theorem dX4_init_159 : decode cX4_init 159 = .ok (.if_icmp .ge 21, 3) := by decide +kernel
theorem dX4_init_162 : decode cX4_init 162 = .ok (.aload_n 0, 1) := by decide +kernel
theorem dX4_init_163 : decode cX4_init 163 = .ok (.getfield 35, 3) := by decide +kernel
theorem dX4_init_166 : decode cX4_init 166 = .ok (.getstatic 44, 3) := by decide +kernel
theorem dX4_init_169 : decode cX4_init 169 = .ok (.iload_n 1, 1) := by decide +kernel
theorem dX4_init_170 : decode cX4_init 170 = .ok (.iaload, 1) := by decide +kernel
theorem dX4_init_171 : decode cX4_init 171 = .ok (.invokevirtual 48, 3) := by decide +kernel
theorem dX4_init_174 : decode cX4_init 174 = .ok (.iinc 1 1, 3) := by decide +kernel
theorem dX4_init_177 : decode cX4_init 177 = .ok (.goto (-23), 3) := by decide +kernel
theorem dX4_init_180 : decode cX4_init 180 = .ok (.return_, 1) := by decide +kernel
theorem dX4_sign_0 : decode cX4_sign 0 = .ok (.aload_n 0, 1) := by decide +kernel
theorem dX4_sign_1 : decode cX4_sign 1 = .ok (.iload_n 1, 1) := by decide +kernel
theorem dX4_sign_2 : decode cX4_sign 2 = .ok (.invokevirtual 52, 3) := by decide +kernel
theorem dX4_sign_5 : decode cX4_sign 5 = .ok (.astore_n 3, 1) := by decide +kernel
theorem dX4_sign_6 : decode cX4_sign 6 = .ok (.aload_n 3, 1) := by decide +kernel
theorem dX4_sign_7 : decode cX4_sign 7 = .ok (.ifnonnull 7, 3) := by decide +kernel
theorem dX4_sign_10 : decode cX4_sign 10 = .ok (.sipush (-1001), 3) := by decide +kernel
theorem dX4_sign_13 : decode cX4_sign 13 = .ok (.ireturn, 1) := by decide +kernel
theorem dX4_sign_14 : decode cX4_sign 14 = .ok (.iload_n 2, 1) := by decide +kernel
theorem dX4_sign_15 : decode cX4_sign 15 = .ok (.invokestatic 56, 3) := by decide +kernel
theorem dX4_sign_18 : decode cX4_sign 18 = .ok (.ifCond .ne 7, 3) := by decide +kernel
theorem dX4_sign_21 : decode cX4_sign 21 = .ok (.sipush (-1002), 3) := by decide +kernel
theorem dX4_sign_24 : decode cX4_sign 24 = .ok (.ireturn, 1) := by decide +kernel
theorem dX4_sign_25 : decode cX4_sign 25 = .ok (.aload_n 3, 1) := by decide +kernel
theorem dX4_sign_26 : decode cX4_sign 26 = .ok (.aload_n 3, 1) := by decide +kernel
theorem dX4_sign_27 : decode cX4_sign 27 = .ok (.getfield 60, 3) := by decide +kernel
theorem dX4_sign_30 : decode cX4_sign 30 = .ok (.aload_n 0, 1) := by decide +kernel
theorem dX4_sign_31 : decode cX4_sign 31 = .ok (.iload_n 2, 1) := by decide +kernel
theorem dX4_sign_32 : decode cX4_sign 32 = .ok (.invokevirtual 64, 3) := by decide +kernel
theorem dX4_sign_35 : decode cX4_sign 35 = .ok (.invokevirtual 67, 3) := by decide +kernel
theorem dX4_sign_38 : decode cX4_sign 38 = .ok (.ireturn, 1) := by decide +kernel
theorem dX4_signs_0 : decode cX4_signs 0 = .ok (.aload_n 0, 1) := by decide +kernel
theorem dX4_signs_1 : decode cX4_signs 1 = .ok (.iload_n 1, 1) := by decide +kernel
theorem dX4_signs_2 : decode cX4_signs 2 = .ok (.invokevirtual 52, 3) := by decide +kernel
theorem dX4_signs_5 : decode cX4_signs 5 = .ok (.astore 5, 2) := by decide +kernel
theorem dX4_signs_7 : decode cX4_signs 7 = .ok (.aload 5, 2) := by decide +kernel
theorem dX4_signs_9 : decode cX4_signs 9 = .ok (.ifnonnull 7, 3) := by decide +kernel
theorem dX4_signs_12 : decode cX4_signs 12 = .ok (.sipush (-1001), 3) := by decide +kernel
theorem dX4_signs_15 : decode cX4_signs 15 = .ok (.ireturn, 1) := by decide +kernel
theorem dX4_signs_16 : decode cX4_signs 16 = .ok (.iload_n 2, 1) := by decide +kernel
theorem dX4_signs_17 : decode cX4_signs 17 = .ok (.ifCond .lt 9, 3) := by decide +kernel
theorem dX4_signs_20 : decode cX4_signs 20 = .ok (.iload_n 2, 1) := by decide +kernel
theorem dX4_signs_21 : decode cX4_signs 21 = .ok (.bipush 8, 2) := by decide +kernel
theorem dX4_signs_23 : decode cX4_signs 23 = .ok (.if_icmp .le 7, 3) := by decide +kernel
theorem dX4_signs_26 : decode cX4_signs 26 = .ok (.sipush (-1002), 3) := by decide +kernel
theorem dX4_signs_29 : decode cX4_signs 29 = .ok (.ireturn, 1) := by decide +kernel
theorem dX4_signs_30 : decode cX4_signs 30 = .ok (.aload 5, 2) := by decide +kernel
theorem dX4_signs_32 : decode cX4_signs 32 = .ok (.aload 5, 2) := by decide +kernel
theorem dX4_signs_34 : decode cX4_signs 34 = .ok (.getfield 60, 3) := by decide +kernel
theorem dX4_signs_37 : decode cX4_signs 37 = .ok (.aload_n 0, 1) := by decide +kernel
theorem dX4_signs_38 : decode cX4_signs 38 = .ok (.iload_n 2, 1) := by decide +kernel
theorem dX4_signs_39 : decode cX4_signs 39 = .ok (.lload_n 3, 1) := by decide +kernel
theorem dX4_signs_40 : decode cX4_signs 40 = .ok (.invokevirtual 71, 3) := by decide +kernel
theorem dX4_signs_43 : decode cX4_signs 43 = .ok (.invokevirtual 67, 3) := by decide +kernel
theorem dX4_signs_46 : decode cX4_signs 46 = .ok (.ireturn, 1) := by decide +kernel
theorem dX4_text_0 : decode cX4_text 0 = .ok (.aload_n 0, 1) := by decide +kernel
theorem dX4_text_1 : decode cX4_text 1 = .ok (.iload_n 1, 1) := by decide +kernel
theorem dX4_text_2 : decode cX4_text 2 = .ok (.invokevirtual 52, 3) := by decide +kernel
theorem dX4_text_5 : decode cX4_text 5 = .ok (.astore_n 3, 1) := by decide +kernel
theorem dX4_text_6 : decode cX4_text 6 = .ok (.aload_n 0, 1) := by decide +kernel
theorem dX4_text_7 : decode cX4_text 7 = .ok (.iload_n 2, 1) := by decide +kernel
theorem dX4_text_8 : decode cX4_text 8 = .ok (.invokevirtual 75, 3) := by decide +kernel
theorem dX4_text_11 : decode cX4_text 11 = .ok (.astore 4, 2) := by decide +kernel
theorem dX4_text_13 : decode cX4_text 13 = .ok (.aload_n 3, 1) := by decide +kernel
theorem dX4_text_14 : decode cX4_text 14 = .ok (.ifnull 8, 3) := by decide +kernel
theorem dX4_text_17 : decode cX4_text 17 = .ok (.aload 4, 2) := by decide +kernel
theorem dX4_text_19 : decode cX4_text 19 = .ok (.ifnonnull 7, 3) := by decide +kernel
theorem dX4_text_22 : decode cX4_text 22 = .ok (.sipush (-1001), 3) := by decide +kernel
theorem dX4_text_25 : decode cX4_text 25 = .ok (.ireturn, 1) := by decide +kernel
theorem dX4_text_26 : decode cX4_text 26 = .ok (.aload_n 3, 1) := by decide +kernel
theorem dX4_text_27 : decode cX4_text 27 = .ok (.aload_n 3, 1) := by decide +kernel
theorem dX4_text_28 : decode cX4_text 28 = .ok (.getfield 60, 3) := by decide +kernel
theorem dX4_text_31 : decode cX4_text 31 = .ok (.aload 4, 2) := by decide +kernel
theorem dX4_text_33 : decode cX4_text 33 = .ok (.invokevirtual 67, 3) := by decide +kernel
theorem dX4_text_36 : decode cX4_text 36 = .ok (.ireturn, 1) := by decide +kernel
theorem dX4_part_0 : decode cX4_part 0 = .ok (.aload_n 0, 1) := by decide +kernel
theorem dX4_part_1 : decode cX4_part 1 = .ok (.iload_n 1, 1) := by decide +kernel
theorem dX4_part_2 : decode cX4_part 2 = .ok (.invokevirtual 52, 3) := by decide +kernel
theorem dX4_part_5 : decode cX4_part 5 = .ok (.astore 5, 2) := by decide +kernel
theorem dX4_part_7 : decode cX4_part 7 = .ok (.aload_n 0, 1) := by decide +kernel
theorem dX4_part_8 : decode cX4_part 8 = .ok (.iload_n 2, 1) := by decide +kernel
theorem dX4_part_9 : decode cX4_part 9 = .ok (.invokevirtual 75, 3) := by decide +kernel
theorem dX4_part_12 : decode cX4_part 12 = .ok (.astore 6, 2) := by decide +kernel
theorem dX4_part_14 : decode cX4_part 14 = .ok (.aload 5, 2) := by decide +kernel
theorem dX4_part_16 : decode cX4_part 16 = .ok (.ifnull 8, 3) := by decide +kernel
theorem dX4_part_19 : decode cX4_part 19 = .ok (.aload 6, 2) := by decide +kernel
theorem dX4_part_21 : decode cX4_part 21 = .ok (.ifnonnull 7, 3) := by decide +kernel
theorem dX4_part_24 : decode cX4_part 24 = .ok (.sipush (-1001), 3) := by decide +kernel
theorem dX4_part_27 : decode cX4_part 27 = .ok (.ireturn, 1) := by decide +kernel
theorem dX4_part_28 : decode cX4_part 28 = .ok (.aload 5, 2) := by decide +kernel
theorem dX4_part_30 : decode cX4_part 30 = .ok (.aload 5, 2) := by decide +kernel
theorem dX4_part_32 : decode cX4_part 32 = .ok (.getfield 60, 3) := by decide +kernel
theorem dX4_part_35 : decode cX4_part 35 = .ok (.aload 5, 2) := by decide +kernel
theorem dX4_part_37 : decode cX4_part 37 = .ok (.getfield 60, 3) := by decide +kernel
theorem dX4_part_40 : decode cX4_part 40 = .ok (.aload 6, 2) := by decide +kernel
theorem dX4_part_42 : decode cX4_part 42 = .ok (.iload_n 3, 1) := by decide +kernel
theorem dX4_part_43 : decode cX4_part 43 = .ok (.iload 4, 2) := by decide +kernel
theorem dX4_part_45 : decode cX4_part 45 = .ok (.invokevirtual 78, 3) := by decide +kernel
theorem dX4_part_48 : decode cX4_part 48 = .ok (.ireturn, 1) := by decide +kernel
theorem dX4_number_0 : decode cX4_number 0 = .ok (.aload_n 0, 1) := by decide +kernel
theorem dX4_number_1 : decode cX4_number 1 = .ok (.iload_n 1, 1) := by decide +kernel
theorem dX4_number_2 : decode cX4_number 2 = .ok (.invokevirtual 52, 3) := by decide +kernel
theorem dX4_number_5 : decode cX4_number 5 = .ok (.astore 4, 2) := by decide +kernel
theorem dX4_number_7 : decode cX4_number 7 = .ok (.aload 4, 2) := by decide +kernel
theorem dX4_number_9 : decode cX4_number 9 = .ok (.ifnonnull 7, 3) := by decide +kernel
theorem dX4_number_12 : decode cX4_number 12 = .ok (.sipush (-1001), 3) := by decide +kernel
theorem dX4_number_15 : decode cX4_number 15 = .ok (.ireturn, 1) := by decide +kernel
theorem dX4_number_16 : decode cX4_number 16 = .ok (.aload 4, 2) := by decide +kernel
theorem dX4_number_18 : decode cX4_number 18 = .ok (.aload 4, 2) := by decide +kernel
theorem dX4_number_20 : decode cX4_number 20 = .ok (.getfield 60, 3) := by decide +kernel
theorem dX4_number_23 : decode cX4_number 23 = .ok (.aload_n 0, 1) := by decide +kernel
theorem dX4_number_24 : decode cX4_number 24 = .ok (.lload_n 2, 1) := by decide +kernel
theorem dX4_number_25 : decode cX4_number 25 = .ok (.invokevirtual 82, 3) := by decide +kernel
theorem dX4_number_28 : decode cX4_number 28 = .ok (.invokevirtual 67, 3) := by decide +kernel
theorem dX4_number_31 : decode cX4_number 31 = .ok (.ireturn, 1) := by decide +kernel
theorem dX4_insert_0 : decode cX4_insert 0 = .ok (.aload_n 0, 1) := by decide +kernel
theorem dX4_insert_1 : decode cX4_insert 1 = .ok (.iload_n 1, 1) := by decide +kernel
theorem dX4_insert_2 : decode cX4_insert 2 = .ok (.invokevirtual 52, 3) := by decide +kernel
theorem dX4_insert_5 : decode cX4_insert 5 = .ok (.astore 4, 2) := by decide +kernel
theorem dX4_insert_7 : decode cX4_insert 7 = .ok (.aload_n 0, 1) := by decide +kernel
theorem dX4_insert_8 : decode cX4_insert 8 = .ok (.iload_n 3, 1) := by decide +kernel
theorem dX4_insert_9 : decode cX4_insert 9 = .ok (.invokevirtual 75, 3) := by decide +kernel
theorem dX4_insert_12 : decode cX4_insert 12 = .ok (.astore 5, 2) := by decide +kernel
theorem dX4_insert_14 : decode cX4_insert 14 = .ok (.aload 4, 2) := by decide +kernel
theorem dX4_insert_16 : decode cX4_insert 16 = .ok (.ifnull 8, 3) := by decide +kernel
theorem dX4_insert_19 : decode cX4_insert 19 = .ok (.aload 5, 2) := by decide +kernel
theorem dX4_insert_21 : decode cX4_insert 21 = .ok (.ifnonnull 7, 3) := by decide +kernel
theorem dX4_insert_24 : decode cX4_insert 24 = .ok (.sipush (-1001), 3) := by decide +kernel
theorem dX4_insert_27 : decode cX4_insert 27 = .ok (.ireturn, 1) := by decide +kernel
theorem dX4_insert_28 : decode cX4_insert 28 = .ok (.aload 4, 2) := by decide +kernel
theorem dX4_insert_30 : decode cX4_insert 30 = .ok (.iload_n 2, 1) := by decide +kernel
theorem dX4_insert_31 : decode cX4_insert 31 = .ok (.aload 5, 2) := by decide +kernel
theorem dX4_insert_33 : decode cX4_insert 33 = .ok (.invokevirtual 67, 3) := by decide +kernel
theorem dX4_insert_36 : decode cX4_insert 36 = .ok (.ireturn, 1) := by decide +kernel
theorem dX4_insertPart_0 : decode cX4_insertPart 0 = .ok (.aload_n 0, 1) := by decide +kernel
theorem dX4_insertPart_1 : decode cX4_insertPart 1 = .ok (.iload_n 1, 1) := by decide +kernel
theorem dX4_insertPart_2 : decode cX4_insertPart 2 = .ok (.invokevirtual 52, 3) := by decide +kernel
theorem dX4_insertPart_5 : decode cX4_insertPart 5 = .ok (.astore 6, 2) := by decide +kernel
theorem dX4_insertPart_7 : decode cX4_insertPart 7 = .ok (.aload_n 0, 1) := by decide +kernel
theorem dX4_insertPart_8 : decode cX4_insertPart 8 = .ok (.iload_n 3, 1) := by decide +kernel
theorem dX4_insertPart_9 : decode cX4_insertPart 9 = .ok (.invokevirtual 75, 3) := by decide +kernel
theorem dX4_insertPart_12 : decode cX4_insertPart 12 = .ok (.astore 7, 2) := by decide +kernel
theorem dX4_insertPart_14 : decode cX4_insertPart 14 = .ok (.aload 6, 2) := by decide +kernel
theorem dX4_insertPart_16 : decode cX4_insertPart 16 = .ok (.ifnull 8, 3) := by decide +kernel
theorem dX4_insertPart_19 : decode cX4_insertPart 19 = .ok (.aload 7, 2) := by decide +kernel
theorem dX4_insertPart_21 : decode cX4_insertPart 21 = .ok (.ifnonnull 7, 3) := by decide +kernel
theorem dX4_insertPart_24 : decode cX4_insertPart 24 = .ok (.sipush (-1001), 3) := by decide +kernel
theorem dX4_insertPart_27 : decode cX4_insertPart 27 = .ok (.ireturn, 1) := by decide +kernel
theorem dX4_insertPart_28 : decode cX4_insertPart 28 = .ok (.aload 6, 2) := by decide +kernel
theorem dX4_insertPart_30 : decode cX4_insertPart 30 = .ok (.iload_n 2, 1) := by decide +kernel
theorem dX4_insertPart_31 : decode cX4_insertPart 31 = .ok (.iload_n 2, 1) := by decide +kernel
theorem dX4_insertPart_32 : decode cX4_insertPart 32 = .ok (.aload 7, 2) := by decide +kernel
theorem dX4_insertPart_34 : decode cX4_insertPart 34 = .ok (.iload 4, 2) := by decide +kernel
theorem dX4_insertPart_36 : decode cX4_insertPart 36 = .ok (.iload 5, 2) := by decide +kernel
theorem dX4_insertPart_38 : decode cX4_insertPart 38 = .ok (.invokevirtual 78, 3) := by decide +kernel
theorem dX4_insertPart_41 : decode cX4_insertPart 41 = .ok (.ireturn, 1) := by decide +kernel
theorem dX4_insertSign_0 : decode cX4_insertSign 0 = .ok (.aload_n 0, 1) := by decide +kernel
theorem dX4_insertSign_1 : decode cX4_insertSign 1 = .ok (.iload_n 1, 1) := by decide +kernel
theorem dX4_insertSign_2 : decode cX4_insertSign 2 = .ok (.invokevirtual 52, 3) := by decide +kernel
theorem dX4_insertSign_5 : decode cX4_insertSign 5 = .ok (.astore 4, 2) := by decide +kernel
theorem dX4_insertSign_7 : decode cX4_insertSign 7 = .ok (.aload 4, 2) := by decide +kernel
theorem dX4_insertSign_9 : decode cX4_insertSign 9 = .ok (.ifnonnull 7, 3) := by decide +kernel
theorem dX4_insertSign_12 : decode cX4_insertSign 12 = .ok (.sipush (-1001), 3) := by decide +kernel
theorem dX4_insertSign_15 : decode cX4_insertSign 15 = .ok (.ireturn, 1) := by decide +kernel
theorem dX4_insertSign_16 : decode cX4_insertSign 16 = .ok (.iload_n 3, 1) := by decide +kernel
theorem dX4_insertSign_17 : decode cX4_insertSign 17 = .ok (.invokestatic 56, 3) := by decide +kernel
theorem dX4_insertSign_20 : decode cX4_insertSign 20 = .ok (.ifCond .ne 7, 3) := by decide +kernel
theorem dX4_insertSign_23 : decode cX4_insertSign 23 = .ok (.sipush (-1002), 3) := by decide +kernel
theorem dX4_insertSign_26 : decode cX4_insertSign 26 = .ok (.ireturn, 1) := by decide +kernel
theorem dX4_insertSign_27 : decode cX4_insertSign 27 = .ok (.aload 4, 2) := by decide +kernel
theorem dX4_insertSign_29 : decode cX4_insertSign 29 = .ok (.iload_n 2, 1) := by decide +kernel
theorem dX4_insertSign_30 : decode cX4_insertSign 30 = .ok (.aload_n 0, 1) := by decide +kernel
theorem dX4_insertSign_31 : decode cX4_insertSign 31 = .ok (.iload_n 3, 1) := by decide +kernel
theorem dX4_insertSign_32 : decode cX4_insertSign 32 = .ok (.invokevirtual 64, 3) := by decide +kernel
theorem dX4_insertSign_35 : decode cX4_insertSign 35 = .ok (.invokevirtual 67, 3) := by decide +kernel
theorem dX4_insertSign_38 : decode cX4_insertSign 38 = .ok (.ireturn, 1) := by decide +kernel
theorem dX4_delete_0 : decode cX4_delete 0 = .ok (.aload_n 0, 1) := by decide +kernel
theorem dX4_delete_1 : decode cX4_delete 1 = .ok (.iload_n 1, 1) := by decide +kernel
theorem dX4_delete_2 : decode cX4_delete 2 = .ok (.invokevirtual 52, 3) := by decide +kernel
theorem dX4_delete_5 : decode cX4_delete 5 = .ok (.astore 4, 2) := by decide +kernel
theorem dX4_delete_7 : decode cX4_delete 7 = .ok (.aload 4, 2) := by decide +kernel
theorem dX4_delete_9 : decode cX4_delete 9 = .ok (.ifnonnull 7, 3) := by decide +kernel
theorem dX4_delete_12 : decode cX4_delete 12 = .ok (.sipush (-1001), 3) := by decide +kernel
theorem dX4_delete_15 : decode cX4_delete 15 = .ok (.ireturn, 1) := by decide +kernel
theorem dX4_delete_16 : decode cX4_delete 16 = .ok (.aload 4, 2) := by decide +kernel
theorem dX4_delete_18 : decode cX4_delete 18 = .ok (.iload_n 2, 1) := by decide +kernel
theorem dX4_delete_19 : decode cX4_delete 19 = .ok (.iload_n 3, 1) := by decide +kernel
theorem dX4_delete_20 : decode cX4_delete 20 = .ok (.aload_n 0, 1) := by decide +kernel
theorem dX4_delete_21 : decode cX4_delete 21 = .ok (.invokevirtual 86, 3) := by decide +kernel
theorem dX4_delete_24 : decode cX4_delete 24 = .ok (.invokevirtual 90, 3) := by decide +kernel
theorem dX4_delete_27 : decode cX4_delete 27 = .ok (.ireturn, 1) := by decide +kernel
theorem dX4_deleteAt_0 : decode cX4_deleteAt 0 = .ok (.aload_n 0, 1) := by decide +kernel
theorem dX4_deleteAt_1 : decode cX4_deleteAt 1 = .ok (.iload_n 1, 1) := by decide +kernel
theorem dX4_deleteAt_2 : decode cX4_deleteAt 2 = .ok (.invokevirtual 52, 3) := by decide +kernel
theorem dX4_deleteAt_5 : decode cX4_deleteAt 5 = .ok (.astore_n 3, 1) := by decide +kernel
theorem dX4_deleteAt_6 : decode cX4_deleteAt 6 = .ok (.aload_n 3, 1) := by decide +kernel
theorem dX4_deleteAt_7 : decode cX4_deleteAt 7 = .ok (.ifnonnull 7, 3) := by decide +kernel
theorem dX4_deleteAt_10 : decode cX4_deleteAt 10 = .ok (.sipush (-1001), 3) := by decide +kernel
theorem dX4_deleteAt_13 : decode cX4_deleteAt 13 = .ok (.ireturn, 1) := by decide +kernel
theorem dX4_deleteAt_14 : decode cX4_deleteAt 14 = .ok (.aload_n 3, 1) := by decide +kernel
theorem dX4_deleteAt_15 : decode cX4_deleteAt 15 = .ok (.iload_n 2, 1) := by decide +kernel
theorem dX4_deleteAt_16 : decode cX4_deleteAt 16 = .ok (.invokevirtual 94, 3) := by decide +kernel
theorem dX4_deleteAt_19 : decode cX4_deleteAt 19 = .ok (.ifCond .ne 7, 3) := by decide +kernel
theorem dX4_deleteAt_22 : decode cX4_deleteAt 22 = .ok (.sipush (-1005), 3) := by decide +kernel
theorem dX4_deleteAt_25 : decode cX4_deleteAt 25 = .ok (.ireturn, 1) := by decide +kernel
theorem dX4_deleteAt_26 : decode cX4_deleteAt 26 = .ok (.aload_n 3, 1) := by decide +kernel
theorem dX4_deleteAt_27 : decode cX4_deleteAt 27 = .ok (.iload_n 2, 1) := by decide +kernel
theorem dX4_deleteAt_28 : decode cX4_deleteAt 28 = .ok (.iload_n 2, 1) := by decide +kernel
theorem dX4_deleteAt_29 : decode cX4_deleteAt 29 = .ok (.iconst 1, 1) := by decide +kernel
theorem dX4_deleteAt_30 : decode cX4_deleteAt 30 = .ok (.iadd, 1) := by decide +kernel
theorem dX4_deleteAt_31 : decode cX4_deleteAt 31 = .ok (.aload_n 0, 1) := by decide +kernel
theorem dX4_deleteAt_32 : decode cX4_deleteAt 32 = .ok (.invokevirtual 86, 3) := by decide +kernel
theorem dX4_deleteAt_35 : decode cX4_deleteAt 35 = .ok (.invokevirtual 90, 3) := by decide +kernel
theorem dX4_deleteAt_38 : decode cX4_deleteAt 38 = .ok (.ireturn, 1) := by decide +kernel
theorem dX4_replace_0 : decode cX4_replace 0 = .ok (.aload_n 0, 1) := by decide +kernel
theorem dX4_replace_1 : decode cX4_replace 1 = .ok (.iload_n 1, 1) := by decide +kernel
theorem dX4_replace_2 : decode cX4_replace 2 = .ok (.invokevirtual 52, 3) := by decide +kernel
theorem dX4_replace_5 : decode cX4_replace 5 = .ok (.astore 5, 2) := by decide +kernel
theorem dX4_replace_7 : decode cX4_replace 7 = .ok (.aload_n 0, 1) := by decide +kernel
theorem dX4_replace_8 : decode cX4_replace 8 = .ok (.iload 4, 2) := by decide +kernel
theorem dX4_replace_10 : decode cX4_replace 10 = .ok (.invokevirtual 97, 3) := by decide +kernel
theorem dX4_replace_13 : decode cX4_replace 13 = .ok (.astore 6, 2) := by decide +kernel
theorem dX4_replace_15 : decode cX4_replace 15 = .ok (.aload 5, 2) := by decide +kernel
theorem dX4_replace_17 : decode cX4_replace 17 = .ok (.ifnull 8, 3) := by decide +kernel
theorem dX4_replace_20 : decode cX4_replace 20 = .ok (.aload 6, 2) := by decide +kernel
theorem dX4_replace_22 : decode cX4_replace 22 = .ok (.ifnonnull 7, 3) := by decide +kernel
theorem dX4_replace_25 : decode cX4_replace 25 = .ok (.sipush (-1001), 3) := by decide +kernel
theorem dX4_replace_28 : decode cX4_replace 28 = .ok (.ireturn, 1) := by decide +kernel
theorem dX4_replace_29 : decode cX4_replace 29 = .ok (.aload 6, 2) := by decide +kernel
theorem dX4_replace_31 : decode cX4_replace 31 = .ok (.getfield 101, 3) := by decide +kernel
theorem dX4_replace_34 : decode cX4_replace 34 = .ok (.ifCond .eq 7, 3) := by decide +kernel
theorem dX4_replace_37 : decode cX4_replace 37 = .ok (.sipush (-1003), 3) := by decide +kernel
theorem dX4_replace_40 : decode cX4_replace 40 = .ok (.ireturn, 1) := by decide +kernel
theorem dX4_replace_41 : decode cX4_replace 41 = .ok (.aload 5, 2) := by decide +kernel
theorem dX4_replace_43 : decode cX4_replace 43 = .ok (.iload_n 2, 1) := by decide +kernel
theorem dX4_replace_44 : decode cX4_replace 44 = .ok (.iload_n 3, 1) := by decide +kernel
theorem dX4_replace_45 : decode cX4_replace 45 = .ok (.aload 6, 2) := by decide +kernel
theorem dX4_replace_47 : decode cX4_replace 47 = .ok (.getfield 105, 3) := by decide +kernel
theorem dX4_replace_50 : decode cX4_replace 50 = .ok (.invokevirtual 90, 3) := by decide +kernel
theorem dX4_replace_53 : decode cX4_replace 53 = .ok (.ireturn, 1) := by decide +kernel
theorem dX4_reverse_0 : decode cX4_reverse 0 = .ok (.aload_n 0, 1) := by decide +kernel
theorem dX4_reverse_1 : decode cX4_reverse 1 = .ok (.iload_n 1, 1) := by decide +kernel
theorem dX4_reverse_2 : decode cX4_reverse 2 = .ok (.invokevirtual 52, 3) := by decide +kernel
theorem dX4_reverse_5 : decode cX4_reverse 5 = .ok (.astore_n 2, 1) := by decide +kernel
theorem dX4_reverse_6 : decode cX4_reverse 6 = .ok (.aload_n 2, 1) := by decide +kernel
theorem dX4_reverse_7 : decode cX4_reverse 7 = .ok (.ifnonnull 7, 3) := by decide +kernel
theorem dX4_reverse_10 : decode cX4_reverse 10 = .ok (.sipush (-1001), 3) := by decide +kernel
theorem dX4_reverse_13 : decode cX4_reverse 13 = .ok (.ireturn, 1) := by decide +kernel
theorem dX4_reverse_14 : decode cX4_reverse 14 = .ok (.aload_n 2, 1) := by decide +kernel
theorem dX4_reverse_15 : decode cX4_reverse 15 = .ok (.invokevirtual 108, 3) := by decide +kernel
theorem dX4_reverse_18 : decode cX4_reverse 18 = .ok (.aload_n 2, 1) := by decide +kernel
theorem dX4_reverse_19 : decode cX4_reverse 19 = .ok (.getfield 60, 3) := by decide +kernel
theorem dX4_reverse_22 : decode cX4_reverse 22 = .ok (.ireturn, 1) := by decide +kernel
theorem dX4_put_0 : decode cX4_put 0 = .ok (.aload_n 0, 1) := by decide +kernel
theorem dX4_put_1 : decode cX4_put 1 = .ok (.iload_n 1, 1) := by decide +kernel
theorem dX4_put_2 : decode cX4_put 2 = .ok (.invokevirtual 52, 3) := by decide +kernel
theorem dX4_put_5 : decode cX4_put 5 = .ok (.astore 4, 2) := by decide +kernel
theorem dX4_put_7 : decode cX4_put 7 = .ok (.aload 4, 2) := by decide +kernel
theorem dX4_put_9 : decode cX4_put 9 = .ok (.ifnonnull 7, 3) := by decide +kernel
theorem dX4_put_12 : decode cX4_put 12 = .ok (.sipush (-1001), 3) := by decide +kernel
theorem dX4_put_15 : decode cX4_put 15 = .ok (.ireturn, 1) := by decide +kernel
theorem dX4_put_16 : decode cX4_put 16 = .ok (.iload_n 3, 1) := by decide +kernel
theorem dX4_put_17 : decode cX4_put 17 = .ok (.invokestatic 56, 3) := by decide +kernel
theorem dX4_put_20 : decode cX4_put 20 = .ok (.ifCond .ne 7, 3) := by decide +kernel
theorem dX4_put_23 : decode cX4_put 23 = .ok (.sipush (-1002), 3) := by decide +kernel
theorem dX4_put_26 : decode cX4_put 26 = .ok (.ireturn, 1) := by decide +kernel
theorem dX4_put_27 : decode cX4_put 27 = .ok (.aload 4, 2) := by decide +kernel
theorem dX4_put_29 : decode cX4_put 29 = .ok (.iload_n 2, 1) := by decide +kernel
theorem dX4_put_30 : decode cX4_put 30 = .ok (.invokevirtual 94, 3) := by decide +kernel
theorem dX4_put_33 : decode cX4_put 33 = .ok (.ifCond .ne 7, 3) := by decide +kernel
theorem dX4_put_36 : decode cX4_put 36 = .ok (.sipush (-1005), 3) := by decide +kernel
theorem dX4_put_39 : decode cX4_put 39 = .ok (.ireturn, 1) := by decide +kernel
theorem dX4_put_40 : decode cX4_put 40 = .ok (.aload 4, 2) := by decide +kernel
theorem dX4_put_42 : decode cX4_put 42 = .ok (.iload_n 2, 1) := by decide +kernel
theorem dX4_put_43 : decode cX4_put 43 = .ok (.invokevirtual 111, 3) := by decide +kernel
theorem dX4_put_46 : decode cX4_put 46 = .ok (.istore 5, 2) := by decide +kernel
theorem dX4_put_48 : decode cX4_put 48 = .ok (.aload 4, 2) := by decide +kernel
theorem dX4_put_50 : decode cX4_put 50 = .ok (.iload_n 2, 1) := by decide +kernel
theorem dX4_put_51 : decode cX4_put 51 = .ok (.iload_n 3, 1) := by decide +kernel
theorem dX4_put_52 : decode cX4_put 52 = .ok (.invokevirtual 115, 3) := by decide +kernel
theorem dX4_put_55 : decode cX4_put 55 = .ok (.iload 5, 2) := by decide +kernel
theorem dX4_put_57 : decode cX4_put 57 = .ok (.ireturn, 1) := by decide +kernel
theorem dX4_length_0 : decode cX4_length 0 = .ok (.aload_n 0, 1) := by decide +kernel
theorem dX4_length_1 : decode cX4_length 1 = .ok (.iload_n 1, 1) := by decide +kernel
theorem dX4_length_2 : decode cX4_length 2 = .ok (.invokevirtual 52, 3) := by decide +kernel
theorem dX4_length_5 : decode cX4_length 5 = .ok (.astore_n 3, 1) := by decide +kernel
theorem dX4_length_6 : decode cX4_length 6 = .ok (.aload_n 3, 1) := by decide +kernel
theorem dX4_length_7 : decode cX4_length 7 = .ok (.ifnonnull 7, 3) := by decide +kernel
theorem dX4_length_10 : decode cX4_length 10 = .ok (.sipush (-1001), 3) := by decide +kernel
theorem dX4_length_13 : decode cX4_length 13 = .ok (.ireturn, 1) := by decide +kernel
theorem dX4_length_14 : decode cX4_length 14 = .ok (.iload_n 2, 1) := by decide +kernel
theorem dX4_length_15 : decode cX4_length 15 = .ok (.ifCond .ge 7, 3) := by decide +kernel
theorem dX4_length_18 : decode cX4_length 18 = .ok (.sipush (-1004), 3) := by decide +kernel
theorem dX4_length_21 : decode cX4_length 21 = .ok (.ireturn, 1) := by decide +kernel
theorem dX4_length_22 : decode cX4_length 22 = .ok (.iload_n 2, 1) := by decide +kernel
theorem dX4_length_23 : decode cX4_length 23 = .ok (.sipush 200, 3) := by decide +kernel
theorem dX4_length_26 : decode cX4_length 26 = .ok (.if_icmp .le 7, 3) := by decide +kernel
theorem dX4_length_29 : decode cX4_length 29 = .ok (.sipush (-1007), 3) := by decide +kernel
theorem dX4_length_32 : decode cX4_length 32 = .ok (.ireturn, 1) := by decide +kernel
theorem dX4_length_33 : decode cX4_length 33 = .ok (.aload_n 3, 1) := by decide +kernel
theorem dX4_length_34 : decode cX4_length 34 = .ok (.getfield 60, 3) := by decide +kernel
theorem dX4_length_37 : decode cX4_length 37 = .ok (.istore 4, 2) := by decide +kernel
theorem dX4_length_39 : decode cX4_length 39 = .ok (.aload_n 3, 1) := by decide +kernel
theorem dX4_length_40 : decode cX4_length 40 = .ok (.iload_n 2, 1) := by decide +kernel
theorem dX4_length_41 : decode cX4_length 41 = .ok (.invokevirtual 119, 3) := by decide +kernel
theorem dX4_length_44 : decode cX4_length 44 = .ok (.iload 4, 2) := by decide +kernel
theorem dX4_length_46 : decode cX4_length 46 = .ok (.ireturn, 1) := by decide +kernel
theorem dX4_at_0 : decode cX4_at 0 = .ok (.aload_n 0, 1) := by decide +kernel
theorem dX4_at_1 : decode cX4_at 1 = .ok (.iload_n 1, 1) := by decide +kernel
theorem dX4_at_2 : decode cX4_at 2 = .ok (.invokevirtual 52, 3) := by decide +kernel
theorem dX4_at_5 : decode cX4_at 5 = .ok (.astore_n 3, 1) := by decide +kernel
theorem dX4_at_6 : decode cX4_at 6 = .ok (.aload_n 3, 1) := by decide +kernel
theorem dX4_at_7 : decode cX4_at 7 = .ok (.ifnonnull 7, 3) := by decide +kernel
theorem dX4_at_10 : decode cX4_at 10 = .ok (.sipush (-1001), 3) := by decide +kernel
theorem dX4_at_13 : decode cX4_at 13 = .ok (.ireturn, 1) := by decide +kernel
theorem dX4_at_14 : decode cX4_at 14 = .ok (.aload_n 3, 1) := by decide +kernel
theorem dX4_at_15 : decode cX4_at 15 = .ok (.iload_n 2, 1) := by decide +kernel
theorem dX4_at_16 : decode cX4_at 16 = .ok (.invokevirtual 94, 3) := by decide +kernel
theorem dX4_at_19 : decode cX4_at 19 = .ok (.ifCond .eq 11, 3) := by decide +kernel
theorem dX4_at_22 : decode cX4_at 22 = .ok (.aload_n 3, 1) := by decide +kernel
theorem dX4_at_23 : decode cX4_at 23 = .ok (.iload_n 2, 1) := by decide +kernel
theorem dX4_at_24 : decode cX4_at 24 = .ok (.invokevirtual 111, 3) := by decide +kernel
theorem dX4_at_27 : decode cX4_at 27 = .ok (.goto 6, 3) := by decide +kernel
theorem dX4_at_30 : decode cX4_at 30 = .ok (.sipush (-1005), 3) := by decide +kernel
theorem dX4_at_33 : decode cX4_at 33 = .ok (.ireturn, 1) := by decide +kernel
theorem dX4_size_0 : decode cX4_size 0 = .ok (.aload_n 0, 1) := by decide +kernel
theorem dX4_size_1 : decode cX4_size 1 = .ok (.iload_n 1, 1) := by decide +kernel
theorem dX4_size_2 : decode cX4_size 2 = .ok (.invokevirtual 52, 3) := by decide +kernel
theorem dX4_size_5 : decode cX4_size 5 = .ok (.astore_n 2, 1) := by decide +kernel
theorem dX4_size_6 : decode cX4_size 6 = .ok (.aload_n 2, 1) := by decide +kernel
theorem dX4_size_7 : decode cX4_size 7 = .ok (.ifnonnull 9, 3) := by decide +kernel
theorem dX4_size_10 : decode cX4_size 10 = .ok (.sipush (-1001), 3) := by decide +kernel
theorem dX4_size_13 : decode cX4_size 13 = .ok (.goto 7, 3) := by decide +kernel
theorem dX4_size_16 : decode cX4_size 16 = .ok (.aload_n 2, 1) := by decide +kernel
theorem dX4_size_17 : decode cX4_size 17 = .ok (.getfield 60, 3) := by decide +kernel
theorem dX4_size_20 : decode cX4_size 20 = .ok (.ireturn, 1) := by decide +kernel
theorem dX4_first_0 : decode cX4_first 0 = .ok (.aload_n 0, 1) := by decide +kernel
theorem dX4_first_1 : decode cX4_first 1 = .ok (.iload_n 1, 1) := by decide +kernel
theorem dX4_first_2 : decode cX4_first 2 = .ok (.invokevirtual 52, 3) := by decide +kernel
theorem dX4_first_5 : decode cX4_first 5 = .ok (.astore 4, 2) := by decide +kernel
theorem dX4_first_7 : decode cX4_first 7 = .ok (.aload_n 0, 1) := by decide +kernel
theorem dX4_first_8 : decode cX4_first 8 = .ok (.iload_n 2, 1) := by decide +kernel
theorem dX4_first_9 : decode cX4_first 9 = .ok (.invokevirtual 97, 3) := by decide +kernel
theorem dX4_first_12 : decode cX4_first 12 = .ok (.astore 5, 2) := by decide +kernel
theorem dX4_first_14 : decode cX4_first 14 = .ok (.aload 4, 2) := by decide +kernel
theorem dX4_first_16 : decode cX4_first 16 = .ok (.ifnull 8, 3) := by decide +kernel
theorem dX4_first_19 : decode cX4_first 19 = .ok (.aload 5, 2) := by decide +kernel
theorem dX4_first_21 : decode cX4_first 21 = .ok (.ifnonnull 7, 3) := by decide +kernel
theorem dX4_first_24 : decode cX4_first 24 = .ok (.sipush (-1001), 3) := by decide +kernel
theorem dX4_first_27 : decode cX4_first 27 = .ok (.ireturn, 1) := by decide +kernel
theorem dX4_first_28 : decode cX4_first 28 = .ok (.aload 5, 2) := by decide +kernel
theorem dX4_first_30 : decode cX4_first 30 = .ok (.getfield 101, 3) := by decide +kernel
theorem dX4_first_33 : decode cX4_first 33 = .ok (.ifCond .eq 9, 3) := by decide +kernel
theorem dX4_first_36 : decode cX4_first 36 = .ok (.sipush (-1003), 3) := by decide +kernel
theorem dX4_first_39 : decode cX4_first 39 = .ok (.goto 14, 3) := by decide +kernel
theorem dX4_first_42 : decode cX4_first 42 = .ok (.aload 4, 2) := by decide +kernel
theorem dX4_first_44 : decode cX4_first 44 = .ok (.aload 5, 2) := by decide +kernel
theorem dX4_first_46 : decode cX4_first 46 = .ok (.getfield 105, 3) := by decide +kernel
theorem dX4_first_49 : decode cX4_first 49 = .ok (.iload_n 3, 1) := by decide +kernel
theorem dX4_first_50 : decode cX4_first 50 = .ok (.invokevirtual 122, 3) := by decide +kernel
theorem dX4_first_53 : decode cX4_first 53 = .ok (.ireturn, 1) := by decide +kernel
theorem dX4_last_0 : decode cX4_last 0 = .ok (.aload_n 0, 1) := by decide +kernel
theorem dX4_last_1 : decode cX4_last 1 = .ok (.iload_n 1, 1) := by decide +kernel
theorem dX4_last_2 : decode cX4_last 2 = .ok (.invokevirtual 52, 3) := by decide +kernel
theorem dX4_last_5 : decode cX4_last 5 = .ok (.astore 4, 2) := by decide +kernel
theorem dX4_last_7 : decode cX4_last 7 = .ok (.aload_n 0, 1) := by decide +kernel
theorem dX4_last_8 : decode cX4_last 8 = .ok (.iload_n 2, 1) := by decide +kernel
theorem dX4_last_9 : decode cX4_last 9 = .ok (.invokevirtual 97, 3) := by decide +kernel
theorem dX4_last_12 : decode cX4_last 12 = .ok (.astore 5, 2) := by decide +kernel
theorem dX4_last_14 : decode cX4_last 14 = .ok (.aload 4, 2) := by decide +kernel
theorem dX4_last_16 : decode cX4_last 16 = .ok (.ifnull 8, 3) := by decide +kernel
theorem dX4_last_19 : decode cX4_last 19 = .ok (.aload 5, 2) := by decide +kernel
theorem dX4_last_21 : decode cX4_last 21 = .ok (.ifnonnull 7, 3) := by decide +kernel
theorem dX4_last_24 : decode cX4_last 24 = .ok (.sipush (-1001), 3) := by decide +kernel
theorem dX4_last_27 : decode cX4_last 27 = .ok (.ireturn, 1) := by decide +kernel
theorem dX4_last_28 : decode cX4_last 28 = .ok (.aload 5, 2) := by decide +kernel
theorem dX4_last_30 : decode cX4_last 30 = .ok (.getfield 101, 3) := by decide +kernel
theorem dX4_last_33 : decode cX4_last 33 = .ok (.ifCond .eq 9, 3) := by decide +kernel
theorem dX4_last_36 : decode cX4_last 36 = .ok (.sipush (-1003), 3) := by decide +kernel
theorem dX4_last_39 : decode cX4_last 39 = .ok (.goto 14, 3) := by decide +kernel
theorem dX4_last_42 : decode cX4_last 42 = .ok (.aload 4, 2) := by decide +kernel
theorem dX4_last_44 : decode cX4_last 44 = .ok (.aload 5, 2) := by decide +kernel
theorem dX4_last_46 : decode cX4_last 46 = .ok (.getfield 105, 3) := by decide +kernel
theorem dX4_last_49 : decode cX4_last 49 = .ok (.iload_n 3, 1) := by decide +kernel
theorem dX4_last_50 : decode cX4_last 50 = .ok (.invokevirtual 126, 3) := by decide +kernel
theorem dX4_last_53 : decode cX4_last 53 = .ok (.ireturn, 1) := by decide +kernel
theorem dX4_take_0 : decode cX4_take 0 = .ok (.aload_n 0, 1) := by decide +kernel
theorem dX4_take_1 : decode cX4_take 1 = .ok (.iload_n 1, 1) := by decide +kernel
theorem dX4_take_2 : decode cX4_take 2 = .ok (.invokevirtual 52, 3) := by decide +kernel
theorem dX4_take_5 : decode cX4_take 5 = .ok (.astore 5, 2) := by decide +kernel
theorem dX4_take_7 : decode cX4_take 7 = .ok (.aload_n 0, 1) := by decide +kernel
theorem dX4_take_8 : decode cX4_take 8 = .ok (.iload 4, 2) := by decide +kernel
theorem dX4_take_10 : decode cX4_take 10 = .ok (.invokevirtual 97, 3) := by decide +kernel
theorem dX4_take_13 : decode cX4_take 13 = .ok (.astore 6, 2) := by decide +kernel
theorem dX4_take_15 : decode cX4_take 15 = .ok (.aload 5, 2) := by decide +kernel
theorem dX4_take_17 : decode cX4_take 17 = .ok (.ifnull 8, 3) := by decide +kernel
theorem dX4_take_20 : decode cX4_take 20 = .ok (.aload 6, 2) := by decide +kernel
theorem dX4_take_22 : decode cX4_take 22 = .ok (.ifnonnull 7, 3) := by decide +kernel
theorem dX4_take_25 : decode cX4_take 25 = .ok (.sipush (-1001), 3) := by decide +kernel
theorem dX4_take_28 : decode cX4_take 28 = .ok (.ireturn, 1) := by decide +kernel
theorem dX4_take_29 : decode cX4_take 29 = .ok (.aload 6, 2) := by decide +kernel
theorem dX4_take_31 : decode cX4_take 31 = .ok (.aload 5, 2) := by decide +kernel
theorem dX4_take_33 : decode cX4_take 33 = .ok (.iload_n 2, 1) := by decide +kernel
theorem dX4_take_34 : decode cX4_take 34 = .ok (.iload_n 3, 1) := by decide +kernel
theorem dX4_take_35 : decode cX4_take 35 = .ok (.invokevirtual 129, 3) := by decide +kernel
theorem dX4_take_38 : decode cX4_take 38 = .ok (.ireturn, 1) := by decide +kernel
theorem dX4_ahead_0 : decode cX4_ahead 0 = .ok (.aload_n 0, 1) := by decide +kernel
theorem dX4_ahead_1 : decode cX4_ahead 1 = .ok (.iload_n 1, 1) := by decide +kernel
theorem dX4_ahead_2 : decode cX4_ahead 2 = .ok (.invokevirtual 52, 3) := by decide +kernel
theorem dX4_ahead_5 : decode cX4_ahead 5 = .ok (.astore_n 3, 1) := by decide +kernel
theorem dX4_ahead_6 : decode cX4_ahead 6 = .ok (.aload_n 0, 1) := by decide +kernel
theorem dX4_ahead_7 : decode cX4_ahead 7 = .ok (.iload_n 2, 1) := by decide +kernel
theorem dX4_ahead_8 : decode cX4_ahead 8 = .ok (.invokevirtual 52, 3) := by decide +kernel
theorem dX4_ahead_11 : decode cX4_ahead 11 = .ok (.astore 4, 2) := by decide +kernel
theorem dX4_ahead_13 : decode cX4_ahead 13 = .ok (.aload_n 3, 1) := by decide +kernel
theorem dX4_ahead_14 : decode cX4_ahead 14 = .ok (.ifnull 8, 3) := by decide +kernel
theorem dX4_ahead_17 : decode cX4_ahead 17 = .ok (.aload 4, 2) := by decide +kernel
theorem dX4_ahead_19 : decode cX4_ahead 19 = .ok (.ifnonnull 7, 3) := by decide +kernel
theorem dX4_ahead_22 : decode cX4_ahead 22 = .ok (.sipush (-1001), 3) := by decide +kernel
theorem dX4_ahead_25 : decode cX4_ahead 25 = .ok (.ireturn, 1) := by decide +kernel
theorem dX4_ahead_26 : decode cX4_ahead 26 = .ok (.aload_n 3, 1) := by decide +kernel
theorem dX4_ahead_27 : decode cX4_ahead 27 = .ok (.aload 4, 2) := by decide +kernel
theorem dX4_ahead_29 : decode cX4_ahead 29 = .ok (.invokevirtual 133, 3) := by decide +kernel
theorem dX4_ahead_32 : decode cX4_ahead 32 = .ok (.iconst 0, 1) := by decide +kernel
theorem dX4_ahead_33 : decode cX4_ahead 33 = .ok (.invokestatic 137, 3) := by decide +kernel
theorem dX4_ahead_36 : decode cX4_ahead 36 = .ok (.ireturn, 1) := by decide +kernel
theorem dX4_forget_0 : decode cX4_forget 0 = .ok (.aload_n 0, 1) := by decide +kernel
theorem dX4_forget_1 : decode cX4_forget 1 = .ok (.iload_n 1, 1) := by decide +kernel
theorem dX4_forget_2 : decode cX4_forget 2 = .ok (.invokevirtual 97, 3) := by decide +kernel
theorem dX4_forget_5 : decode cX4_forget 5 = .ok (.astore_n 2, 1) := by decide +kernel
theorem dX4_forget_6 : decode cX4_forget 6 = .ok (.aload_n 2, 1) := by decide +kernel
theorem dX4_forget_7 : decode cX4_forget 7 = .ok (.ifnonnull 7, 3) := by decide +kernel
theorem dX4_forget_10 : decode cX4_forget 10 = .ok (.sipush (-1001), 3) := by decide +kernel
theorem dX4_forget_13 : decode cX4_forget 13 = .ok (.ireturn, 1) := by decide +kernel
theorem dX4_forget_14 : decode cX4_forget 14 = .ok (.aload_n 2, 1) := by decide +kernel
theorem dX4_forget_15 : decode cX4_forget 15 = .ok (.getfield 101, 3) := by decide +kernel
theorem dX4_forget_18 : decode cX4_forget 18 = .ok (.ifCond .eq 5, 3) := by decide +kernel
theorem dX4_forget_21 : decode cX4_forget 21 = .ok (.iconst 0, 1) := by decide +kernel
theorem dX4_forget_22 : decode cX4_forget 22 = .ok (.ireturn, 1) := by decide +kernel
theorem dX4_forget_23 : decode cX4_forget 23 = .ok (.aload_n 2, 1) := by decide +kernel
theorem dX4_forget_24 : decode cX4_forget 24 = .ok (.iconst 1, 1) := by decide +kernel
theorem dX4_forget_25 : decode cX4_forget 25 = .ok (.putfield 101, 3) := by decide +kernel
theorem dX4_forget_28 : decode cX4_forget 28 = .ok (.iconst 1, 1) := by decide +kernel
theorem dX4_forget_29 : decode cX4_forget 29 = .ok (.ireturn, 1) := by decide +kernel
theorem dX4_textSize_0 : decode cX4_textSize 0 = .ok (.aload_n 0, 1) := by decide +kernel
theorem dX4_textSize_1 : decode cX4_textSize 1 = .ok (.iload_n 1, 1) := by decide +kernel
theorem dX4_textSize_2 : decode cX4_textSize 2 = .ok (.invokevirtual 97, 3) := by decide +kernel
theorem dX4_textSize_5 : decode cX4_textSize 5 = .ok (.astore_n 2, 1) := by decide +kernel
theorem dX4_textSize_6 : decode cX4_textSize 6 = .ok (.aload_n 2, 1) := by decide +kernel
theorem dX4_textSize_7 : decode cX4_textSize 7 = .ok (.ifnonnull 7, 3) := by decide +kernel
theorem dX4_textSize_10 : decode cX4_textSize 10 = .ok (.sipush (-1001), 3) := by decide +kernel
theorem dX4_textSize_13 : decode cX4_textSize 13 = .ok (.ireturn, 1) := by decide +kernel
theorem dX4_textSize_14 : decode cX4_textSize 14 = .ok (.aload_n 2, 1) := by decide +kernel
theorem dX4_textSize_15 : decode cX4_textSize 15 = .ok (.getfield 101, 3) := by decide +kernel
theorem dX4_textSize_18 : decode cX4_textSize 18 = .ok (.ifCond .eq 7, 3) := by decide +kernel
theorem dX4_textSize_21 : decode cX4_textSize 21 = .ok (.iconst (-1), 1) := by decide +kernel
theorem dX4_textSize_22 : decode cX4_textSize 22 = .ok (.goto 10, 3) := by decide +kernel
theorem dX4_textSize_25 : decode cX4_textSize 25 = .ok (.aload_n 2, 1) := by decide +kernel
theorem dX4_textSize_26 : decode cX4_textSize 26 = .ok (.getfield 105, 3) := by decide +kernel
theorem dX4_textSize_29 : decode cX4_textSize 29 = .ok (.getfield 60, 3) := by decide +kernel
theorem dX4_textSize_32 : decode cX4_textSize 32 = .ok (.ireturn, 1) := by decide +kernel
theorem dX4_signAt_0 : decode cX4_signAt 0 = .ok (.aload_n 0, 1) := by decide +kernel
theorem dX4_signAt_1 : decode cX4_signAt 1 = .ok (.iload_n 1, 1) := by decide +kernel
theorem dX4_signAt_2 : decode cX4_signAt 2 = .ok (.invokevirtual 97, 3) := by decide +kernel
theorem dX4_signAt_5 : decode cX4_signAt 5 = .ok (.astore_n 3, 1) := by decide +kernel
theorem dX4_signAt_6 : decode cX4_signAt 6 = .ok (.aload_n 3, 1) := by decide +kernel
theorem dX4_signAt_7 : decode cX4_signAt 7 = .ok (.ifnonnull 7, 3) := by decide +kernel
theorem dX4_signAt_10 : decode cX4_signAt 10 = .ok (.sipush (-1001), 3) := by decide +kernel
theorem dX4_signAt_13 : decode cX4_signAt 13 = .ok (.ireturn, 1) := by decide +kernel
theorem dX4_signAt_14 : decode cX4_signAt 14 = .ok (.aload_n 3, 1) := by decide +kernel
theorem dX4_signAt_15 : decode cX4_signAt 15 = .ok (.getfield 101, 3) := by decide +kernel
theorem dX4_signAt_18 : decode cX4_signAt 18 = .ok (.ifCond .eq 7, 3) := by decide +kernel
theorem dX4_signAt_21 : decode cX4_signAt 21 = .ok (.sipush (-1003), 3) := by decide +kernel
theorem dX4_signAt_24 : decode cX4_signAt 24 = .ok (.ireturn, 1) := by decide +kernel
theorem dX4_signAt_25 : decode cX4_signAt 25 = .ok (.aload_n 3, 1) := by decide +kernel
theorem dX4_signAt_26 : decode cX4_signAt 26 = .ok (.getfield 105, 3) := by decide +kernel
theorem dX4_signAt_29 : decode cX4_signAt 29 = .ok (.iload_n 2, 1) := by decide +kernel
theorem dX4_signAt_30 : decode cX4_signAt 30 = .ok (.invokevirtual 94, 3) := by decide +kernel
theorem dX4_signAt_33 : decode cX4_signAt 33 = .ok (.ifCond .eq 14, 3) := by decide +kernel
theorem dX4_signAt_36 : decode cX4_signAt 36 = .ok (.aload_n 3, 1) := by decide +kernel
theorem dX4_signAt_37 : decode cX4_signAt 37 = .ok (.getfield 105, 3) := by decide +kernel
theorem dX4_signAt_40 : decode cX4_signAt 40 = .ok (.iload_n 2, 1) := by decide +kernel
theorem dX4_signAt_41 : decode cX4_signAt 41 = .ok (.invokevirtual 111, 3) := by decide +kernel
theorem dX4_signAt_44 : decode cX4_signAt 44 = .ok (.goto 6, 3) := by decide +kernel
theorem dX4_signAt_47 : decode cX4_signAt 47 = .ok (.sipush (-1005), 3) := by decide +kernel
theorem dX4_signAt_50 : decode cX4_signAt 50 = .ok (.ireturn, 1) := by decide +kernel
theorem dX4_firstSign_0 : decode cX4_firstSign 0 = .ok (.aload_n 0, 1) := by decide +kernel
theorem dX4_firstSign_1 : decode cX4_firstSign 1 = .ok (.iload_n 1, 1) := by decide +kernel
theorem dX4_firstSign_2 : decode cX4_firstSign 2 = .ok (.invokevirtual 97, 3) := by decide +kernel
theorem dX4_firstSign_5 : decode cX4_firstSign 5 = .ok (.astore 4, 2) := by decide +kernel
theorem dX4_firstSign_7 : decode cX4_firstSign 7 = .ok (.aload 4, 2) := by decide +kernel
theorem dX4_firstSign_9 : decode cX4_firstSign 9 = .ok (.ifnonnull 7, 3) := by decide +kernel
theorem dX4_firstSign_12 : decode cX4_firstSign 12 = .ok (.sipush (-1001), 3) := by decide +kernel
theorem dX4_firstSign_15 : decode cX4_firstSign 15 = .ok (.ireturn, 1) := by decide +kernel
theorem dX4_firstSign_16 : decode cX4_firstSign 16 = .ok (.iload_n 2, 1) := by decide +kernel
theorem dX4_firstSign_17 : decode cX4_firstSign 17 = .ok (.invokestatic 56, 3) := by decide +kernel
theorem dX4_firstSign_20 : decode cX4_firstSign 20 = .ok (.ifCond .ne 7, 3) := by decide +kernel
theorem dX4_firstSign_23 : decode cX4_firstSign 23 = .ok (.sipush (-1002), 3) := by decide +kernel
theorem dX4_firstSign_26 : decode cX4_firstSign 26 = .ok (.ireturn, 1) := by decide +kernel
theorem dX4_firstSign_27 : decode cX4_firstSign 27 = .ok (.aload 4, 2) := by decide +kernel
theorem dX4_firstSign_29 : decode cX4_firstSign 29 = .ok (.getfield 101, 3) := by decide +kernel
theorem dX4_firstSign_32 : decode cX4_firstSign 32 = .ok (.ifCond .eq 9, 3) := by decide +kernel
theorem dX4_firstSign_35 : decode cX4_firstSign 35 = .ok (.sipush (-1003), 3) := by decide +kernel
theorem dX4_firstSign_38 : decode cX4_firstSign 38 = .ok (.goto 13, 3) := by decide +kernel
theorem dX4_firstSign_41 : decode cX4_firstSign 41 = .ok (.aload 4, 2) := by decide +kernel
theorem dX4_firstSign_43 : decode cX4_firstSign 43 = .ok (.getfield 105, 3) := by decide +kernel
theorem dX4_firstSign_46 : decode cX4_firstSign 46 = .ok (.iload_n 2, 1) := by decide +kernel
theorem dX4_firstSign_47 : decode cX4_firstSign 47 = .ok (.iload_n 3, 1) := by decide +kernel
theorem dX4_firstSign_48 : decode cX4_firstSign 48 = .ok (.invokevirtual 143, 3) := by decide +kernel
theorem dX4_firstSign_51 : decode cX4_firstSign 51 = .ok (.ireturn, 1) := by decide +kernel
theorem dX4_lastSign_0 : decode cX4_lastSign 0 = .ok (.aload_n 0, 1) := by decide +kernel
theorem dX4_lastSign_1 : decode cX4_lastSign 1 = .ok (.iload_n 1, 1) := by decide +kernel
theorem dX4_lastSign_2 : decode cX4_lastSign 2 = .ok (.invokevirtual 97, 3) := by decide +kernel
theorem dX4_lastSign_5 : decode cX4_lastSign 5 = .ok (.astore 4, 2) := by decide +kernel
theorem dX4_lastSign_7 : decode cX4_lastSign 7 = .ok (.aload 4, 2) := by decide +kernel
theorem dX4_lastSign_9 : decode cX4_lastSign 9 = .ok (.ifnonnull 7, 3) := by decide +kernel
theorem dX4_lastSign_12 : decode cX4_lastSign 12 = .ok (.sipush (-1001), 3) := by decide +kernel
theorem dX4_lastSign_15 : decode cX4_lastSign 15 = .ok (.ireturn, 1) := by decide +kernel
theorem dX4_lastSign_16 : decode cX4_lastSign 16 = .ok (.iload_n 2, 1) := by decide +kernel
theorem dX4_lastSign_17 : decode cX4_lastSign 17 = .ok (.invokestatic 56, 3) := by decide +kernel
theorem dX4_lastSign_20 : decode cX4_lastSign 20 = .ok (.ifCond .ne 7, 3) := by decide +kernel
theorem dX4_lastSign_23 : decode cX4_lastSign 23 = .ok (.sipush (-1002), 3) := by decide +kernel
theorem dX4_lastSign_26 : decode cX4_lastSign 26 = .ok (.ireturn, 1) := by decide +kernel
theorem dX4_lastSign_27 : decode cX4_lastSign 27 = .ok (.aload 4, 2) := by decide +kernel
theorem dX4_lastSign_29 : decode cX4_lastSign 29 = .ok (.getfield 101, 3) := by decide +kernel
theorem dX4_lastSign_32 : decode cX4_lastSign 32 = .ok (.ifCond .eq 9, 3) := by decide +kernel
theorem dX4_lastSign_35 : decode cX4_lastSign 35 = .ok (.sipush (-1003), 3) := by decide +kernel
theorem dX4_lastSign_38 : decode cX4_lastSign 38 = .ok (.goto 13, 3) := by decide +kernel
theorem dX4_lastSign_41 : decode cX4_lastSign 41 = .ok (.aload 4, 2) := by decide +kernel
theorem dX4_lastSign_43 : decode cX4_lastSign 43 = .ok (.getfield 105, 3) := by decide +kernel
theorem dX4_lastSign_46 : decode cX4_lastSign 46 = .ok (.iload_n 2, 1) := by decide +kernel
theorem dX4_lastSign_47 : decode cX4_lastSign 47 = .ok (.iload_n 3, 1) := by decide +kernel
theorem dX4_lastSign_48 : decode cX4_lastSign 48 = .ok (.invokevirtual 146, 3) := by decide +kernel
theorem dX4_lastSign_51 : decode cX4_lastSign 51 = .ok (.ireturn, 1) := by decide +kernel
theorem dX4_firstText_0 : decode cX4_firstText 0 = .ok (.aload_n 0, 1) := by decide +kernel
theorem dX4_firstText_1 : decode cX4_firstText 1 = .ok (.iload_n 1, 1) := by decide +kernel
theorem dX4_firstText_2 : decode cX4_firstText 2 = .ok (.invokevirtual 97, 3) := by decide +kernel
theorem dX4_firstText_5 : decode cX4_firstText 5 = .ok (.astore 4, 2) := by decide +kernel
theorem dX4_firstText_7 : decode cX4_firstText 7 = .ok (.aload_n 0, 1) := by decide +kernel
theorem dX4_firstText_8 : decode cX4_firstText 8 = .ok (.iload_n 2, 1) := by decide +kernel
theorem dX4_firstText_9 : decode cX4_firstText 9 = .ok (.invokevirtual 97, 3) := by decide +kernel
theorem dX4_firstText_12 : decode cX4_firstText 12 = .ok (.astore 5, 2) := by decide +kernel
theorem dX4_firstText_14 : decode cX4_firstText 14 = .ok (.aload 4, 2) := by decide +kernel
theorem dX4_firstText_16 : decode cX4_firstText 16 = .ok (.ifnull 8, 3) := by decide +kernel
theorem dX4_firstText_19 : decode cX4_firstText 19 = .ok (.aload 5, 2) := by decide +kernel
theorem dX4_firstText_21 : decode cX4_firstText 21 = .ok (.ifnonnull 7, 3) := by decide +kernel
theorem dX4_firstText_24 : decode cX4_firstText 24 = .ok (.sipush (-1001), 3) := by decide +kernel
theorem dX4_firstText_27 : decode cX4_firstText 27 = .ok (.ireturn, 1) := by decide +kernel
theorem dX4_firstText_28 : decode cX4_firstText 28 = .ok (.aload 4, 2) := by decide +kernel
theorem dX4_firstText_30 : decode cX4_firstText 30 = .ok (.getfield 101, 3) := by decide +kernel
theorem dX4_firstText_33 : decode cX4_firstText 33 = .ok (.ifCond .ne 11, 3) := by decide +kernel
theorem dX4_firstText_36 : decode cX4_firstText 36 = .ok (.aload 5, 2) := by decide +kernel
theorem dX4_firstText_38 : decode cX4_firstText 38 = .ok (.getfield 101, 3) := by decide +kernel
theorem dX4_firstText_41 : decode cX4_firstText 41 = .ok (.ifCond .eq 7, 3) := by decide +kernel
theorem dX4_firstText_44 : decode cX4_firstText 44 = .ok (.sipush (-1003), 3) := by decide +kernel
theorem dX4_firstText_47 : decode cX4_firstText 47 = .ok (.ireturn, 1) := by decide +kernel
theorem dX4_firstText_48 : decode cX4_firstText 48 = .ok (.aload 4, 2) := by decide +kernel
theorem dX4_firstText_50 : decode cX4_firstText 50 = .ok (.getfield 105, 3) := by decide +kernel
theorem dX4_firstText_53 : decode cX4_firstText 53 = .ok (.aload 5, 2) := by decide +kernel
theorem dX4_firstText_55 : decode cX4_firstText 55 = .ok (.getfield 105, 3) := by decide +kernel
theorem dX4_firstText_58 : decode cX4_firstText 58 = .ok (.iload_n 3, 1) := by decide +kernel
theorem dX4_firstText_59 : decode cX4_firstText 59 = .ok (.invokevirtual 122, 3) := by decide +kernel
theorem dX4_firstText_62 : decode cX4_firstText 62 = .ok (.ireturn, 1) := by decide +kernel
theorem dX4_lastText_0 : decode cX4_lastText 0 = .ok (.aload_n 0, 1) := by decide +kernel
theorem dX4_lastText_1 : decode cX4_lastText 1 = .ok (.iload_n 1, 1) := by decide +kernel
theorem dX4_lastText_2 : decode cX4_lastText 2 = .ok (.invokevirtual 97, 3) := by decide +kernel
theorem dX4_lastText_5 : decode cX4_lastText 5 = .ok (.astore 4, 2) := by decide +kernel
theorem dX4_lastText_7 : decode cX4_lastText 7 = .ok (.aload_n 0, 1) := by decide +kernel
theorem dX4_lastText_8 : decode cX4_lastText 8 = .ok (.iload_n 2, 1) := by decide +kernel
theorem dX4_lastText_9 : decode cX4_lastText 9 = .ok (.invokevirtual 97, 3) := by decide +kernel
theorem dX4_lastText_12 : decode cX4_lastText 12 = .ok (.astore 5, 2) := by decide +kernel
theorem dX4_lastText_14 : decode cX4_lastText 14 = .ok (.aload 4, 2) := by decide +kernel
theorem dX4_lastText_16 : decode cX4_lastText 16 = .ok (.ifnull 8, 3) := by decide +kernel
theorem dX4_lastText_19 : decode cX4_lastText 19 = .ok (.aload 5, 2) := by decide +kernel
theorem dX4_lastText_21 : decode cX4_lastText 21 = .ok (.ifnonnull 7, 3) := by decide +kernel
theorem dX4_lastText_24 : decode cX4_lastText 24 = .ok (.sipush (-1001), 3) := by decide +kernel
theorem dX4_lastText_27 : decode cX4_lastText 27 = .ok (.ireturn, 1) := by decide +kernel
theorem dX4_lastText_28 : decode cX4_lastText 28 = .ok (.aload 4, 2) := by decide +kernel
theorem dX4_lastText_30 : decode cX4_lastText 30 = .ok (.getfield 101, 3) := by decide +kernel
theorem dX4_lastText_33 : decode cX4_lastText 33 = .ok (.ifCond .ne 11, 3) := by decide +kernel
theorem dX4_lastText_36 : decode cX4_lastText 36 = .ok (.aload 5, 2) := by decide +kernel
theorem dX4_lastText_38 : decode cX4_lastText 38 = .ok (.getfield 101, 3) := by decide +kernel
theorem dX4_lastText_41 : decode cX4_lastText 41 = .ok (.ifCond .eq 7, 3) := by decide +kernel
theorem dX4_lastText_44 : decode cX4_lastText 44 = .ok (.sipush (-1003), 3) := by decide +kernel
theorem dX4_lastText_47 : decode cX4_lastText 47 = .ok (.ireturn, 1) := by decide +kernel
theorem dX4_lastText_48 : decode cX4_lastText 48 = .ok (.aload 4, 2) := by decide +kernel
theorem dX4_lastText_50 : decode cX4_lastText 50 = .ok (.getfield 105, 3) := by decide +kernel
theorem dX4_lastText_53 : decode cX4_lastText 53 = .ok (.aload 5, 2) := by decide +kernel
theorem dX4_lastText_55 : decode cX4_lastText 55 = .ok (.getfield 105, 3) := by decide +kernel
theorem dX4_lastText_58 : decode cX4_lastText 58 = .ok (.iload_n 3, 1) := by decide +kernel
theorem dX4_lastText_59 : decode cX4_lastText 59 = .ok (.invokevirtual 126, 3) := by decide +kernel
theorem dX4_lastText_62 : decode cX4_lastText 62 = .ok (.ireturn, 1) := by decide +kernel
theorem dX4_region_0 : decode cX4_region 0 = .ok (.aload_n 0, 1) := by decide +kernel
theorem dX4_region_1 : decode cX4_region 1 = .ok (.iload_n 1, 1) := by decide +kernel
theorem dX4_region_2 : decode cX4_region 2 = .ok (.invokevirtual 97, 3) := by decide +kernel
theorem dX4_region_5 : decode cX4_region 5 = .ok (.astore 6, 2) := by decide +kernel
theorem dX4_region_7 : decode cX4_region 7 = .ok (.aload_n 0, 1) := by decide +kernel
theorem dX4_region_8 : decode cX4_region 8 = .ok (.iload_n 3, 1) := by decide +kernel
theorem dX4_region_9 : decode cX4_region 9 = .ok (.invokevirtual 97, 3) := by decide +kernel
theorem dX4_region_12 : decode cX4_region 12 = .ok (.astore 7, 2) := by decide +kernel
theorem dX4_region_14 : decode cX4_region 14 = .ok (.aload 6, 2) := by decide +kernel
theorem dX4_region_16 : decode cX4_region 16 = .ok (.ifnull 8, 3) := by decide +kernel
theorem dX4_region_19 : decode cX4_region 19 = .ok (.aload 7, 2) := by decide +kernel
theorem dX4_region_21 : decode cX4_region 21 = .ok (.ifnonnull 7, 3) := by decide +kernel
theorem dX4_region_24 : decode cX4_region 24 = .ok (.sipush (-1001), 3) := by decide +kernel
theorem dX4_region_27 : decode cX4_region 27 = .ok (.ireturn, 1) := by decide +kernel
theorem dX4_region_28 : decode cX4_region 28 = .ok (.aload 6, 2) := by decide +kernel
theorem dX4_region_30 : decode cX4_region 30 = .ok (.getfield 101, 3) := by decide +kernel
theorem dX4_region_33 : decode cX4_region 33 = .ok (.ifCond .ne 11, 3) := by decide +kernel
theorem dX4_region_36 : decode cX4_region 36 = .ok (.aload 7, 2) := by decide +kernel
theorem dX4_region_38 : decode cX4_region 38 = .ok (.getfield 101, 3) := by decide +kernel
theorem dX4_region_41 : decode cX4_region 41 = .ok (.ifCond .eq 7, 3) := by decide +kernel
theorem dX4_region_44 : decode cX4_region 44 = .ok (.sipush (-1003), 3) := by decide +kernel
theorem dX4_region_47 : decode cX4_region 47 = .ok (.ireturn, 1) := by decide +kernel
theorem dX4_region_48 : decode cX4_region 48 = .ok (.aload 6, 2) := by decide +kernel
theorem dX4_region_50 : decode cX4_region 50 = .ok (.getfield 105, 3) := by decide +kernel
theorem dX4_region_53 : decode cX4_region 53 = .ok (.iload_n 2, 1) := by decide +kernel
theorem dX4_region_54 : decode cX4_region 54 = .ok (.aload 7, 2) := by decide +kernel
theorem dX4_region_56 : decode cX4_region 56 = .ok (.getfield 105, 3) := by decide +kernel
theorem dX4_region_59 : decode cX4_region 59 = .ok (.iload 4, 2) := by decide +kernel
theorem dX4_region_61 : decode cX4_region 61 = .ok (.iload 5, 2) := by decide +kernel
theorem dX4_region_63 : decode cX4_region 63 = .ok (.invokevirtual 149, 3) := by decide +kernel
theorem dX4_region_66 : decode cX4_region 66 = .ok (.ifCond .eq 7, 3) := by decide +kernel
theorem dX4_region_69 : decode cX4_region 69 = .ok (.iconst 1, 1) := by decide +kernel
theorem dX4_region_70 : decode cX4_region 70 = .ok (.goto 4, 3) := by decide +kernel
theorem dX4_region_73 : decode cX4_region 73 = .ok (.iconst 0, 1) := by decide +kernel
theorem dX4_region_74 : decode cX4_region 74 = .ok (.ireturn, 1) := by decide +kernel
theorem dX4_order_0 : decode cX4_order 0 = .ok (.aload_n 0, 1) := by decide +kernel
theorem dX4_order_1 : decode cX4_order 1 = .ok (.iload_n 1, 1) := by decide +kernel
theorem dX4_order_2 : decode cX4_order 2 = .ok (.invokevirtual 97, 3) := by decide +kernel
theorem dX4_order_5 : decode cX4_order 5 = .ok (.astore_n 3, 1) := by decide +kernel
theorem dX4_order_6 : decode cX4_order 6 = .ok (.aload_n 0, 1) := by decide +kernel
theorem dX4_order_7 : decode cX4_order 7 = .ok (.iload_n 2, 1) := by decide +kernel
theorem dX4_order_8 : decode cX4_order 8 = .ok (.invokevirtual 97, 3) := by decide +kernel
theorem dX4_order_11 : decode cX4_order 11 = .ok (.astore 4, 2) := by decide +kernel
theorem dX4_order_13 : decode cX4_order 13 = .ok (.aload_n 3, 1) := by decide +kernel
theorem dX4_order_14 : decode cX4_order 14 = .ok (.ifnull 8, 3) := by decide +kernel
theorem dX4_order_17 : decode cX4_order 17 = .ok (.aload 4, 2) := by decide +kernel
theorem dX4_order_19 : decode cX4_order 19 = .ok (.ifnonnull 7, 3) := by decide +kernel
theorem dX4_order_22 : decode cX4_order 22 = .ok (.sipush (-1001), 3) := by decide +kernel
theorem dX4_order_25 : decode cX4_order 25 = .ok (.ireturn, 1) := by decide +kernel
theorem dX4_order_26 : decode cX4_order 26 = .ok (.aload_n 3, 1) := by decide +kernel
theorem dX4_order_27 : decode cX4_order 27 = .ok (.getfield 101, 3) := by decide +kernel
theorem dX4_order_30 : decode cX4_order 30 = .ok (.ifCond .ne 11, 3) := by decide +kernel
theorem dX4_order_33 : decode cX4_order 33 = .ok (.aload 4, 2) := by decide +kernel
theorem dX4_order_35 : decode cX4_order 35 = .ok (.getfield 101, 3) := by decide +kernel
theorem dX4_order_38 : decode cX4_order 38 = .ok (.ifCond .eq 7, 3) := by decide +kernel
theorem dX4_order_41 : decode cX4_order 41 = .ok (.sipush (-1003), 3) := by decide +kernel
theorem dX4_order_44 : decode cX4_order 44 = .ok (.ireturn, 1) := by decide +kernel
theorem dX4_order_45 : decode cX4_order 45 = .ok (.aload_n 3, 1) := by decide +kernel
theorem dX4_order_46 : decode cX4_order 46 = .ok (.getfield 105, 3) := by decide +kernel
theorem dX4_order_49 : decode cX4_order 49 = .ok (.aload 4, 2) := by decide +kernel
theorem dX4_order_51 : decode cX4_order 51 = .ok (.getfield 105, 3) := by decide +kernel
theorem dX4_order_54 : decode cX4_order 54 = .ok (.invokevirtual 133, 3) := by decide +kernel
theorem dX4_order_57 : decode cX4_order 57 = .ok (.ireturn, 1) := by decide +kernel
theorem dX4_begins_0 : decode cX4_begins 0 = .ok (.aload_n 0, 1) := by decide +kernel
theorem dX4_begins_1 : decode cX4_begins 1 = .ok (.iload_n 1, 1) := by decide +kernel
theorem dX4_begins_2 : decode cX4_begins 2 = .ok (.invokevirtual 97, 3) := by decide +kernel
theorem dX4_begins_5 : decode cX4_begins 5 = .ok (.astore 4, 2) := by decide +kernel
theorem dX4_begins_7 : decode cX4_begins 7 = .ok (.aload_n 0, 1) := by decide +kernel
theorem dX4_begins_8 : decode cX4_begins 8 = .ok (.iload_n 2, 1) := by decide +kernel
theorem dX4_begins_9 : decode cX4_begins 9 = .ok (.invokevirtual 97, 3) := by decide +kernel
theorem dX4_begins_12 : decode cX4_begins 12 = .ok (.astore 5, 2) := by decide +kernel
theorem dX4_begins_14 : decode cX4_begins 14 = .ok (.aload 4, 2) := by decide +kernel
theorem dX4_begins_16 : decode cX4_begins 16 = .ok (.ifnull 8, 3) := by decide +kernel
theorem dX4_begins_19 : decode cX4_begins 19 = .ok (.aload 5, 2) := by decide +kernel
theorem dX4_begins_21 : decode cX4_begins 21 = .ok (.ifnonnull 7, 3) := by decide +kernel
theorem dX4_begins_24 : decode cX4_begins 24 = .ok (.sipush (-1001), 3) := by decide +kernel
theorem dX4_begins_27 : decode cX4_begins 27 = .ok (.ireturn, 1) := by decide +kernel
theorem dX4_begins_28 : decode cX4_begins 28 = .ok (.aload 4, 2) := by decide +kernel
theorem dX4_begins_30 : decode cX4_begins 30 = .ok (.getfield 101, 3) := by decide +kernel
theorem dX4_begins_33 : decode cX4_begins 33 = .ok (.ifCond .ne 11, 3) := by decide +kernel
theorem dX4_begins_36 : decode cX4_begins 36 = .ok (.aload 5, 2) := by decide +kernel
theorem dX4_begins_38 : decode cX4_begins 38 = .ok (.getfield 101, 3) := by decide +kernel
theorem dX4_begins_41 : decode cX4_begins 41 = .ok (.ifCond .eq 7, 3) := by decide +kernel
theorem dX4_begins_44 : decode cX4_begins 44 = .ok (.sipush (-1003), 3) := by decide +kernel
theorem dX4_begins_47 : decode cX4_begins 47 = .ok (.ireturn, 1) := by decide +kernel
theorem dX4_begins_48 : decode cX4_begins 48 = .ok (.aload 4, 2) := by decide +kernel
theorem dX4_begins_50 : decode cX4_begins 50 = .ok (.getfield 105, 3) := by decide +kernel
theorem dX4_begins_53 : decode cX4_begins 53 = .ok (.aload 5, 2) := by decide +kernel
theorem dX4_begins_55 : decode cX4_begins 55 = .ok (.getfield 105, 3) := by decide +kernel
theorem dX4_begins_58 : decode cX4_begins 58 = .ok (.iload_n 3, 1) := by decide +kernel
theorem dX4_begins_59 : decode cX4_begins 59 = .ok (.invokevirtual 153, 3) := by decide +kernel
theorem dX4_begins_62 : decode cX4_begins 62 = .ok (.ifCond .eq 7, 3) := by decide +kernel
theorem dX4_begins_65 : decode cX4_begins 65 = .ok (.iconst 1, 1) := by decide +kernel
theorem dX4_begins_66 : decode cX4_begins 66 = .ok (.goto 4, 3) := by decide +kernel
theorem dX4_begins_69 : decode cX4_begins 69 = .ok (.iconst 0, 1) := by decide +kernel
theorem dX4_begins_70 : decode cX4_begins 70 = .ok (.ireturn, 1) := by decide +kernel
theorem dX4_swap_0 : decode cX4_swap 0 = .ok (.aload_n 0, 1) := by decide +kernel
theorem dX4_swap_1 : decode cX4_swap 1 = .ok (.iload_n 1, 1) := by decide +kernel
theorem dX4_swap_2 : decode cX4_swap 2 = .ok (.invokevirtual 97, 3) := by decide +kernel
theorem dX4_swap_5 : decode cX4_swap 5 = .ok (.astore 5, 2) := by decide +kernel
theorem dX4_swap_7 : decode cX4_swap 7 = .ok (.aload_n 0, 1) := by decide +kernel
theorem dX4_swap_8 : decode cX4_swap 8 = .ok (.iload 4, 2) := by decide +kernel
theorem dX4_swap_10 : decode cX4_swap 10 = .ok (.invokevirtual 97, 3) := by decide +kernel
theorem dX4_swap_13 : decode cX4_swap 13 = .ok (.astore 6, 2) := by decide +kernel
theorem dX4_swap_15 : decode cX4_swap 15 = .ok (.aload 5, 2) := by decide +kernel
theorem dX4_swap_17 : decode cX4_swap 17 = .ok (.ifnull 8, 3) := by decide +kernel
theorem dX4_swap_20 : decode cX4_swap 20 = .ok (.aload 6, 2) := by decide +kernel
theorem dX4_swap_22 : decode cX4_swap 22 = .ok (.ifnonnull 7, 3) := by decide +kernel
theorem dX4_swap_25 : decode cX4_swap 25 = .ok (.sipush (-1001), 3) := by decide +kernel
theorem dX4_swap_28 : decode cX4_swap 28 = .ok (.ireturn, 1) := by decide +kernel
theorem dX4_swap_29 : decode cX4_swap 29 = .ok (.iload_n 2, 1) := by decide +kernel
theorem dX4_swap_30 : decode cX4_swap 30 = .ok (.invokestatic 56, 3) := by decide +kernel
theorem dX4_swap_33 : decode cX4_swap 33 = .ok (.ifCond .eq 10, 3) := by decide +kernel
theorem dX4_swap_36 : decode cX4_swap 36 = .ok (.iload_n 3, 1) := by decide +kernel
theorem dX4_swap_37 : decode cX4_swap 37 = .ok (.invokestatic 56, 3) := by decide +kernel
theorem dX4_swap_40 : decode cX4_swap 40 = .ok (.ifCond .ne 7, 3) := by decide +kernel
theorem dX4_swap_43 : decode cX4_swap 43 = .ok (.sipush (-1002), 3) := by decide +kernel
theorem dX4_swap_46 : decode cX4_swap 46 = .ok (.ireturn, 1) := by decide +kernel
theorem dX4_swap_47 : decode cX4_swap 47 = .ok (.aload 5, 2) := by decide +kernel
theorem dX4_swap_49 : decode cX4_swap 49 = .ok (.getfield 101, 3) := by decide +kernel
theorem dX4_swap_52 : decode cX4_swap 52 = .ok (.ifCond .eq 7, 3) := by decide +kernel
theorem dX4_swap_55 : decode cX4_swap 55 = .ok (.sipush (-1003), 3) := by decide +kernel
theorem dX4_swap_58 : decode cX4_swap 58 = .ok (.ireturn, 1) := by decide +kernel
theorem dX4_swap_59 : decode cX4_swap 59 = .ok (.aload 6, 2) := by decide +kernel
theorem dX4_swap_61 : decode cX4_swap 61 = .ok (.aload 5, 2) := by decide +kernel
theorem dX4_swap_63 : decode cX4_swap 63 = .ok (.getfield 105, 3) := by decide +kernel
theorem dX4_swap_66 : decode cX4_swap 66 = .ok (.iconst 0, 1) := by decide +kernel
theorem dX4_swap_67 : decode cX4_swap 67 = .ok (.aload 5, 2) := by decide +kernel
theorem dX4_swap_69 : decode cX4_swap 69 = .ok (.getfield 105, 3) := by decide +kernel
theorem dX4_swap_72 : decode cX4_swap 72 = .ok (.getfield 60, 3) := by decide +kernel
theorem dX4_swap_75 : decode cX4_swap 75 = .ok (.invokevirtual 129, 3) := by decide +kernel
theorem dX4_swap_78 : decode cX4_swap 78 = .ok (.pop, 1) := by decide +kernel
theorem dX4_swap_79 : decode cX4_swap 79 = .ok (.aload 6, 2) := by decide +kernel
theorem dX4_swap_81 : decode cX4_swap 81 = .ok (.getfield 105, 3) := by decide +kernel
theorem dX4_swap_84 : decode cX4_swap 84 = .ok (.iload_n 2, 1) := by decide +kernel
theorem dX4_swap_85 : decode cX4_swap 85 = .ok (.iload_n 3, 1) := by decide +kernel
theorem dX4_swap_86 : decode cX4_swap 86 = .ok (.invokevirtual 157, 3) := by decide +kernel
theorem dX4_swap_89 : decode cX4_swap 89 = .ok (.aload 6, 2) := by decide +kernel
theorem dX4_swap_91 : decode cX4_swap 91 = .ok (.getfield 105, 3) := by decide +kernel
theorem dX4_swap_94 : decode cX4_swap 94 = .ok (.getfield 60, 3) := by decide +kernel
theorem dX4_swap_97 : decode cX4_swap 97 = .ok (.ireturn, 1) := by decide +kernel
theorem dX4_sub_0 : decode cX4_sub 0 = .ok (.aload_n 0, 1) := by decide +kernel
theorem dX4_sub_1 : decode cX4_sub 1 = .ok (.iload_n 1, 1) := by decide +kernel
theorem dX4_sub_2 : decode cX4_sub 2 = .ok (.invokevirtual 97, 3) := by decide +kernel
theorem dX4_sub_5 : decode cX4_sub 5 = .ok (.astore 5, 2) := by decide +kernel
theorem dX4_sub_7 : decode cX4_sub 7 = .ok (.aload_n 0, 1) := by decide +kernel
theorem dX4_sub_8 : decode cX4_sub 8 = .ok (.iload 4, 2) := by decide +kernel
theorem dX4_sub_10 : decode cX4_sub 10 = .ok (.invokevirtual 97, 3) := by decide +kernel
theorem dX4_sub_13 : decode cX4_sub 13 = .ok (.astore 6, 2) := by decide +kernel
theorem dX4_sub_15 : decode cX4_sub 15 = .ok (.aload 5, 2) := by decide +kernel
theorem dX4_sub_17 : decode cX4_sub 17 = .ok (.ifnull 8, 3) := by decide +kernel
theorem dX4_sub_20 : decode cX4_sub 20 = .ok (.aload 6, 2) := by decide +kernel
theorem dX4_sub_22 : decode cX4_sub 22 = .ok (.ifnonnull 7, 3) := by decide +kernel
theorem dX4_sub_25 : decode cX4_sub 25 = .ok (.sipush (-1001), 3) := by decide +kernel
theorem dX4_sub_28 : decode cX4_sub 28 = .ok (.ireturn, 1) := by decide +kernel
theorem dX4_sub_29 : decode cX4_sub 29 = .ok (.aload 5, 2) := by decide +kernel
theorem dX4_sub_31 : decode cX4_sub 31 = .ok (.getfield 101, 3) := by decide +kernel
theorem dX4_sub_34 : decode cX4_sub 34 = .ok (.ifCond .eq 9, 3) := by decide +kernel
theorem dX4_sub_37 : decode cX4_sub 37 = .ok (.sipush (-1003), 3) := by decide +kernel
theorem dX4_sub_40 : decode cX4_sub 40 = .ok (.goto 15, 3) := by decide +kernel
theorem dX4_sub_43 : decode cX4_sub 43 = .ok (.aload 6, 2) := by decide +kernel
theorem dX4_sub_45 : decode cX4_sub 45 = .ok (.aload 5, 2) := by decide +kernel
theorem dX4_sub_47 : decode cX4_sub 47 = .ok (.getfield 105, 3) := by decide +kernel
theorem dX4_sub_50 : decode cX4_sub 50 = .ok (.iload_n 2, 1) := by decide +kernel
theorem dX4_sub_51 : decode cX4_sub 51 = .ok (.iload_n 3, 1) := by decide +kernel
theorem dX4_sub_52 : decode cX4_sub 52 = .ok (.invokevirtual 129, 3) := by decide +kernel
theorem dX4_sub_55 : decode cX4_sub 55 = .ok (.ireturn, 1) := by decide +kernel
theorem dX4_trim_0 : decode cX4_trim 0 = .ok (.aload_n 0, 1) := by decide +kernel
theorem dX4_trim_1 : decode cX4_trim 1 = .ok (.iload_n 1, 1) := by decide +kernel
theorem dX4_trim_2 : decode cX4_trim 2 = .ok (.invokevirtual 97, 3) := by decide +kernel
theorem dX4_trim_5 : decode cX4_trim 5 = .ok (.astore_n 3, 1) := by decide +kernel
theorem dX4_trim_6 : decode cX4_trim 6 = .ok (.aload_n 0, 1) := by decide +kernel
theorem dX4_trim_7 : decode cX4_trim 7 = .ok (.iload_n 2, 1) := by decide +kernel
theorem dX4_trim_8 : decode cX4_trim 8 = .ok (.invokevirtual 97, 3) := by decide +kernel
theorem dX4_trim_11 : decode cX4_trim 11 = .ok (.astore 4, 2) := by decide +kernel
theorem dX4_trim_13 : decode cX4_trim 13 = .ok (.aload_n 3, 1) := by decide +kernel
theorem dX4_trim_14 : decode cX4_trim 14 = .ok (.ifnull 8, 3) := by decide +kernel
theorem dX4_trim_17 : decode cX4_trim 17 = .ok (.aload 4, 2) := by decide +kernel
theorem dX4_trim_19 : decode cX4_trim 19 = .ok (.ifnonnull 7, 3) := by decide +kernel
theorem dX4_trim_22 : decode cX4_trim 22 = .ok (.sipush (-1001), 3) := by decide +kernel
theorem dX4_trim_25 : decode cX4_trim 25 = .ok (.ireturn, 1) := by decide +kernel
theorem dX4_trim_26 : decode cX4_trim 26 = .ok (.aload_n 3, 1) := by decide +kernel
theorem dX4_trim_27 : decode cX4_trim 27 = .ok (.getfield 101, 3) := by decide +kernel
theorem dX4_trim_30 : decode cX4_trim 30 = .ok (.ifCond .eq 7, 3) := by decide +kernel
theorem dX4_trim_33 : decode cX4_trim 33 = .ok (.sipush (-1003), 3) := by decide +kernel
theorem dX4_trim_36 : decode cX4_trim 36 = .ok (.ireturn, 1) := by decide +kernel
theorem dX4_trim_37 : decode cX4_trim 37 = .ok (.aload_n 3, 1) := by decide +kernel
theorem dX4_trim_38 : decode cX4_trim 38 = .ok (.getfield 105, 3) := by decide +kernel
theorem dX4_trim_41 : decode cX4_trim 41 = .ok (.invokevirtual 160, 3) := by decide +kernel
theorem dX4_trim_44 : decode cX4_trim 44 = .ok (.istore 5, 2) := by decide +kernel
theorem dX4_trim_46 : decode cX4_trim 46 = .ok (.aload 4, 2) := by decide +kernel
theorem dX4_trim_48 : decode cX4_trim 48 = .ok (.aload_n 3, 1) := by decide +kernel
theorem dX4_trim_49 : decode cX4_trim 49 = .ok (.getfield 105, 3) := by decide +kernel
theorem dX4_trim_52 : decode cX4_trim 52 = .ok (.iload 5, 2) := by decide +kernel
theorem dX4_trim_54 : decode cX4_trim 54 = .ok (.aload_n 3, 1) := by decide +kernel
theorem dX4_trim_55 : decode cX4_trim 55 = .ok (.getfield 105, 3) := by decide +kernel
theorem dX4_trim_58 : decode cX4_trim 58 = .ok (.iload 5, 2) := by decide +kernel
theorem dX4_trim_60 : decode cX4_trim 60 = .ok (.invokevirtual 164, 3) := by decide +kernel
theorem dX4_trim_63 : decode cX4_trim 63 = .ok (.invokevirtual 129, 3) := by decide +kernel
theorem dX4_trim_66 : decode cX4_trim 66 = .ok (.ireturn, 1) := by decide +kernel
theorem dX4_repeat_0 : decode cX4_repeat 0 = .ok (.aload_n 0, 1) := by decide +kernel
theorem dX4_repeat_1 : decode cX4_repeat 1 = .ok (.iload_n 1, 1) := by decide +kernel
theorem dX4_repeat_2 : decode cX4_repeat 2 = .ok (.invokevirtual 97, 3) := by decide +kernel
theorem dX4_repeat_5 : decode cX4_repeat 5 = .ok (.astore 4, 2) := by decide +kernel
theorem dX4_repeat_7 : decode cX4_repeat 7 = .ok (.aload_n 0, 1) := by decide +kernel
theorem dX4_repeat_8 : decode cX4_repeat 8 = .ok (.iload_n 3, 1) := by decide +kernel
theorem dX4_repeat_9 : decode cX4_repeat 9 = .ok (.invokevirtual 97, 3) := by decide +kernel
theorem dX4_repeat_12 : decode cX4_repeat 12 = .ok (.astore 5, 2) := by decide +kernel
theorem dX4_repeat_14 : decode cX4_repeat 14 = .ok (.aload 4, 2) := by decide +kernel
theorem dX4_repeat_16 : decode cX4_repeat 16 = .ok (.ifnull 8, 3) := by decide +kernel
theorem dX4_repeat_19 : decode cX4_repeat 19 = .ok (.aload 5, 2) := by decide +kernel
theorem dX4_repeat_21 : decode cX4_repeat 21 = .ok (.ifnonnull 7, 3) := by decide +kernel
theorem dX4_repeat_24 : decode cX4_repeat 24 = .ok (.sipush (-1001), 3) := by decide +kernel
theorem dX4_repeat_27 : decode cX4_repeat 27 = .ok (.ireturn, 1) := by decide +kernel
theorem dX4_repeat_28 : decode cX4_repeat 28 = .ok (.aload 4, 2) := by decide +kernel
theorem dX4_repeat_30 : decode cX4_repeat 30 = .ok (.getfield 101, 3) := by decide +kernel
theorem dX4_repeat_33 : decode cX4_repeat 33 = .ok (.ifCond .eq 7, 3) := by decide +kernel
theorem dX4_repeat_36 : decode cX4_repeat 36 = .ok (.sipush (-1003), 3) := by decide +kernel
theorem dX4_repeat_39 : decode cX4_repeat 39 = .ok (.ireturn, 1) := by decide +kernel
theorem dX4_repeat_40 : decode cX4_repeat 40 = .ok (.iload_n 2, 1) := by decide +kernel
theorem dX4_repeat_41 : decode cX4_repeat 41 = .ok (.ifCond .ge 7, 3) := by decide +kernel
theorem dX4_repeat_44 : decode cX4_repeat 44 = .ok (.sipush (-1004), 3) := by decide +kernel
theorem dX4_repeat_47 : decode cX4_repeat 47 = .ok (.ireturn, 1) := by decide +kernel
theorem dX4_repeat_48 : decode cX4_repeat 48 = .ok (.iload_n 2, 1) := by decide +kernel
theorem dX4_repeat_49 : decode cX4_repeat 49 = .ok (.i2l, 1) := by decide +kernel
theorem dX4_repeat_50 : decode cX4_repeat 50 = .ok (.aload 4, 2) := by decide +kernel
theorem dX4_repeat_52 : decode cX4_repeat 52 = .ok (.getfield 105, 3) := by decide +kernel
theorem dX4_repeat_55 : decode cX4_repeat 55 = .ok (.getfield 60, 3) := by decide +kernel
theorem dX4_repeat_58 : decode cX4_repeat 58 = .ok (.i2l, 1) := by decide +kernel
theorem dX4_repeat_59 : decode cX4_repeat 59 = .ok (.lmul, 1) := by decide +kernel
theorem dX4_repeat_60 : decode cX4_repeat 60 = .ok (.ldc2_w 167, 3) := by decide +kernel
theorem dX4_repeat_63 : decode cX4_repeat 63 = .ok (.lcmp, 1) := by decide +kernel
theorem dX4_repeat_64 : decode cX4_repeat 64 = .ok (.ifCond .le 7, 3) := by decide +kernel
theorem dX4_repeat_67 : decode cX4_repeat 67 = .ok (.sipush (-1007), 3) := by decide +kernel
theorem dX4_repeat_70 : decode cX4_repeat 70 = .ok (.ireturn, 1) := by decide +kernel
theorem dX4_repeat_71 : decode cX4_repeat 71 = .ok (.aload_n 0, 1) := by decide +kernel
theorem dX4_repeat_72 : decode cX4_repeat 72 = .ok (.invokevirtual 86, 3) := by decide +kernel
theorem dX4_repeat_75 : decode cX4_repeat 75 = .ok (.astore 6, 2) := by decide +kernel
theorem dX4_repeat_77 : decode cX4_repeat 77 = .ok (.iload_n 2, 1) := by decide +kernel
theorem dX4_repeat_78 : decode cX4_repeat 78 = .ok (.sipush 200, 3) := by decide +kernel
theorem dX4_repeat_81 : decode cX4_repeat 81 = .ok (.invokestatic 169, 3) := by decide +kernel
theorem dX4_repeat_84 : decode cX4_repeat 84 = .ok (.istore 7, 2) := by decide +kernel
theorem dX4_repeat_86 : decode cX4_repeat 86 = .ok (.iconst 0, 1) := by decide +kernel
theorem dX4_repeat_87 : decode cX4_repeat 87 = .ok (.istore 8, 2) := by decide +kernel
theorem dX4_repeat_89 : decode cX4_repeat 89 = .ok (.iload 8, 2) := by decide +kernel
theorem dX4_repeat_91 : decode cX4_repeat 91 = .ok (.iload 7, 2) := by decide +kernel
theorem dX4_repeat_93 : decode cX4_repeat 93 = .ok (.if_icmp .ge 25, 3) := by decide +kernel
theorem dX4_repeat_96 : decode cX4_repeat 96 = .ok (.aload 6, 2) := by decide +kernel
theorem dX4_repeat_98 : decode cX4_repeat 98 = .ok (.aload 6, 2) := by decide +kernel
theorem dX4_repeat_100 : decode cX4_repeat 100 = .ok (.getfield 60, 3) := by decide +kernel
theorem dX4_repeat_103 : decode cX4_repeat 103 = .ok (.aload 4, 2) := by decide +kernel
theorem dX4_repeat_105 : decode cX4_repeat 105 = .ok (.getfield 105, 3) := by decide +kernel
theorem dX4_repeat_108 : decode cX4_repeat 108 = .ok (.invokevirtual 67, 3) := by decide +kernel
theorem dX4_repeat_111 : decode cX4_repeat 111 = .ok (.pop, 1) := by decide +kernel
theorem dX4_repeat_112 : decode cX4_repeat 112 = .ok (.iinc 8 1, 3) := by decide +kernel
theorem dX4_repeat_115 : decode cX4_repeat 115 = .ok (.goto (-26), 3) := by decide +kernel
theorem dX4_repeat_118 : decode cX4_repeat 118 = .ok (.aload 5, 2) := by decide +kernel
theorem dX4_repeat_120 : decode cX4_repeat 120 = .ok (.aload 6, 2) := by decide +kernel
theorem dX4_repeat_122 : decode cX4_repeat 122 = .ok (.iconst 0, 1) := by decide +kernel
theorem dX4_repeat_123 : decode cX4_repeat 123 = .ok (.aload 6, 2) := by decide +kernel
theorem dX4_repeat_125 : decode cX4_repeat 125 = .ok (.getfield 60, 3) := by decide +kernel
theorem dX4_repeat_128 : decode cX4_repeat 128 = .ok (.invokevirtual 129, 3) := by decide +kernel
theorem dX4_repeat_131 : decode cX4_repeat 131 = .ok (.ireturn, 1) := by decide +kernel
theorem dX4_join_0 : decode cX4_join 0 = .ok (.aload_n 0, 1) := by decide +kernel
theorem dX4_join_1 : decode cX4_join 1 = .ok (.iload_n 1, 1) := by decide +kernel
theorem dX4_join_2 : decode cX4_join 2 = .ok (.invokevirtual 97, 3) := by decide +kernel
theorem dX4_join_5 : decode cX4_join 5 = .ok (.astore 4, 2) := by decide +kernel
theorem dX4_join_7 : decode cX4_join 7 = .ok (.aload_n 0, 1) := by decide +kernel
theorem dX4_join_8 : decode cX4_join 8 = .ok (.iload_n 2, 1) := by decide +kernel
theorem dX4_join_9 : decode cX4_join 9 = .ok (.invokevirtual 97, 3) := by decide +kernel
theorem dX4_join_12 : decode cX4_join 12 = .ok (.astore 5, 2) := by decide +kernel
theorem dX4_join_14 : decode cX4_join 14 = .ok (.aload_n 0, 1) := by decide +kernel
theorem dX4_join_15 : decode cX4_join 15 = .ok (.iload_n 3, 1) := by decide +kernel
theorem dX4_join_16 : decode cX4_join 16 = .ok (.invokevirtual 97, 3) := by decide +kernel
theorem dX4_join_19 : decode cX4_join 19 = .ok (.astore 6, 2) := by decide +kernel
theorem dX4_join_21 : decode cX4_join 21 = .ok (.aload 4, 2) := by decide +kernel
theorem dX4_join_23 : decode cX4_join 23 = .ok (.ifnull 13, 3) := by decide +kernel
theorem dX4_join_26 : decode cX4_join 26 = .ok (.aload 5, 2) := by decide +kernel
theorem dX4_join_28 : decode cX4_join 28 = .ok (.ifnull 8, 3) := by decide +kernel
theorem dX4_join_31 : decode cX4_join 31 = .ok (.aload 6, 2) := by decide +kernel
theorem dX4_join_33 : decode cX4_join 33 = .ok (.ifnonnull 7, 3) := by decide +kernel
theorem dX4_join_36 : decode cX4_join 36 = .ok (.sipush (-1001), 3) := by decide +kernel
theorem dX4_join_39 : decode cX4_join 39 = .ok (.ireturn, 1) := by decide +kernel
theorem dX4_join_40 : decode cX4_join 40 = .ok (.aload 4, 2) := by decide +kernel
theorem dX4_join_42 : decode cX4_join 42 = .ok (.getfield 101, 3) := by decide +kernel
theorem dX4_join_45 : decode cX4_join 45 = .ok (.ifCond .ne 11, 3) := by decide +kernel
theorem dX4_join_48 : decode cX4_join 48 = .ok (.aload 5, 2) := by decide +kernel
theorem dX4_join_50 : decode cX4_join 50 = .ok (.getfield 101, 3) := by decide +kernel
theorem dX4_join_53 : decode cX4_join 53 = .ok (.ifCond .eq 7, 3) := by decide +kernel
theorem dX4_join_56 : decode cX4_join 56 = .ok (.sipush (-1003), 3) := by decide +kernel
theorem dX4_join_59 : decode cX4_join 59 = .ok (.ireturn, 1) := by decide +kernel
theorem dX4_join_60 : decode cX4_join 60 = .ok (.aload_n 0, 1) := by decide +kernel
theorem dX4_join_61 : decode cX4_join 61 = .ok (.invokevirtual 86, 3) := by decide +kernel
theorem dX4_join_64 : decode cX4_join 64 = .ok (.astore 7, 2) := by decide +kernel
theorem dX4_join_66 : decode cX4_join 66 = .ok (.aload 7, 2) := by decide +kernel
theorem dX4_join_68 : decode cX4_join 68 = .ok (.iconst 0, 1) := by decide +kernel
theorem dX4_join_69 : decode cX4_join 69 = .ok (.aload 4, 2) := by decide +kernel
theorem dX4_join_71 : decode cX4_join 71 = .ok (.getfield 105, 3) := by decide +kernel
theorem dX4_join_74 : decode cX4_join 74 = .ok (.invokevirtual 67, 3) := by decide +kernel
theorem dX4_join_77 : decode cX4_join 77 = .ok (.pop, 1) := by decide +kernel
theorem dX4_join_78 : decode cX4_join 78 = .ok (.aload 7, 2) := by decide +kernel
theorem dX4_join_80 : decode cX4_join 80 = .ok (.aload 7, 2) := by decide +kernel
theorem dX4_join_82 : decode cX4_join 82 = .ok (.getfield 60, 3) := by decide +kernel
theorem dX4_join_85 : decode cX4_join 85 = .ok (.aload 5, 2) := by decide +kernel
theorem dX4_join_87 : decode cX4_join 87 = .ok (.getfield 105, 3) := by decide +kernel
theorem dX4_join_90 : decode cX4_join 90 = .ok (.invokevirtual 67, 3) := by decide +kernel
theorem dX4_join_93 : decode cX4_join 93 = .ok (.istore 8, 2) := by decide +kernel
theorem dX4_join_95 : decode cX4_join 95 = .ok (.iload 8, 2) := by decide +kernel
theorem dX4_join_97 : decode cX4_join 97 = .ok (.ifCond .ge 8, 3) := by decide +kernel
theorem dX4_join_100 : decode cX4_join 100 = .ok (.iload 8, 2) := by decide +kernel
theorem dX4_join_102 : decode cX4_join 102 = .ok (.goto 16, 3) := by decide +kernel
theorem dX4_join_105 : decode cX4_join 105 = .ok (.aload 6, 2) := by decide +kernel
theorem dX4_join_107 : decode cX4_join 107 = .ok (.aload 7, 2) := by decide +kernel
theorem dX4_join_109 : decode cX4_join 109 = .ok (.iconst 0, 1) := by decide +kernel
theorem dX4_join_110 : decode cX4_join 110 = .ok (.aload 7, 2) := by decide +kernel
theorem dX4_join_112 : decode cX4_join 112 = .ok (.getfield 60, 3) := by decide +kernel
theorem dX4_join_115 : decode cX4_join 115 = .ok (.invokevirtual 129, 3) := by decide +kernel
theorem dX4_join_118 : decode cX4_join 118 = .ok (.ireturn, 1) := by decide +kernel
theorem dX4_split_0 : decode cX4_split 0 = .ok (.aload_n 0, 1) := by decide +kernel
theorem dX4_split_1 : decode cX4_split 1 = .ok (.iload_n 1, 1) := by decide +kernel
theorem dX4_split_2 : decode cX4_split 2 = .ok (.invokevirtual 97, 3) := by decide +kernel
theorem dX4_split_5 : decode cX4_split 5 = .ok (.astore 4, 2) := by decide +kernel
theorem dX4_split_7 : decode cX4_split 7 = .ok (.aload 4, 2) := by decide +kernel
theorem dX4_split_9 : decode cX4_split 9 = .ok (.ifnonnull 7, 3) := by decide +kernel
theorem dX4_split_12 : decode cX4_split 12 = .ok (.sipush (-1001), 3) := by decide +kernel
theorem dX4_split_15 : decode cX4_split 15 = .ok (.ireturn, 1) := by decide +kernel
theorem dX4_split_16 : decode cX4_split 16 = .ok (.iload_n 2, 1) := by decide +kernel
theorem dX4_split_17 : decode cX4_split 17 = .ok (.invokestatic 174, 3) := by decide +kernel
theorem dX4_split_20 : decode cX4_split 20 = .ok (.ifCond .ne 7, 3) := by decide +kernel
theorem dX4_split_23 : decode cX4_split 23 = .ok (.sipush (-1002), 3) := by decide +kernel
theorem dX4_split_26 : decode cX4_split 26 = .ok (.ireturn, 1) := by decide +kernel
theorem dX4_split_27 : decode cX4_split 27 = .ok (.aload 4, 2) := by decide +kernel
theorem dX4_split_29 : decode cX4_split 29 = .ok (.getfield 101, 3) := by decide +kernel
theorem dX4_split_32 : decode cX4_split 32 = .ok (.ifCond .eq 7, 3) := by decide +kernel
theorem dX4_split_35 : decode cX4_split 35 = .ok (.sipush (-1003), 3) := by decide +kernel
theorem dX4_split_38 : decode cX4_split 38 = .ok (.ireturn, 1) := by decide +kernel
theorem dX4_split_39 : decode cX4_split 39 = .ok (.aload_n 0, 1) := by decide +kernel
theorem dX4_split_40 : decode cX4_split 40 = .ok (.getfield 30, 3) := by decide +kernel
theorem dX4_split_43 : decode cX4_split 43 = .ok (.aload 4, 2) := by decide +kernel
theorem dX4_split_45 : decode cX4_split 45 = .ok (.getfield 105, 3) := by decide +kernel
theorem dX4_split_48 : decode cX4_split 48 = .ok (.iload_n 2, 1) := by decide +kernel
theorem dX4_split_49 : decode cX4_split 49 = .ok (.iload_n 3, 1) := by decide +kernel
theorem dX4_split_50 : decode cX4_split 50 = .ok (.invokevirtual 177, 3) := by decide +kernel
theorem dX4_split_53 : decode cX4_split 53 = .ok (.aload_n 0, 1) := by decide +kernel
theorem dX4_split_54 : decode cX4_split 54 = .ok (.getfield 30, 3) := by decide +kernel
theorem dX4_split_57 : decode cX4_split 57 = .ok (.getfield 181, 3) := by decide +kernel
theorem dX4_split_60 : decode cX4_split 60 = .ok (.ireturn, 1) := by decide +kernel
theorem dX4_parts_0 : decode cX4_parts 0 = .ok (.aload_n 0, 1) := by decide +kernel
theorem dX4_parts_1 : decode cX4_parts 1 = .ok (.getfield 30, 3) := by decide +kernel
theorem dX4_parts_4 : decode cX4_parts 4 = .ok (.getfield 181, 3) := by decide +kernel
theorem dX4_parts_7 : decode cX4_parts 7 = .ok (.ireturn, 1) := by decide +kernel
theorem dX4_partTo_0 : decode cX4_partTo 0 = .ok (.aload_n 0, 1) := by decide +kernel
theorem dX4_partTo_1 : decode cX4_partTo 1 = .ok (.iload_n 2, 1) := by decide +kernel
theorem dX4_partTo_2 : decode cX4_partTo 2 = .ok (.invokevirtual 97, 3) := by decide +kernel
theorem dX4_partTo_5 : decode cX4_partTo 5 = .ok (.astore_n 3, 1) := by decide +kernel
theorem dX4_partTo_6 : decode cX4_partTo 6 = .ok (.aload_n 3, 1) := by decide +kernel
theorem dX4_partTo_7 : decode cX4_partTo 7 = .ok (.ifnonnull 7, 3) := by decide +kernel
theorem dX4_partTo_10 : decode cX4_partTo 10 = .ok (.sipush (-1001), 3) := by decide +kernel
theorem dX4_partTo_13 : decode cX4_partTo 13 = .ok (.ireturn, 1) := by decide +kernel
theorem dX4_partTo_14 : decode cX4_partTo 14 = .ok (.aload_n 0, 1) := by decide +kernel
theorem dX4_partTo_15 : decode cX4_partTo 15 = .ok (.getfield 30, 3) := by decide +kernel
theorem dX4_partTo_18 : decode cX4_partTo 18 = .ok (.iload_n 1, 1) := by decide +kernel
theorem dX4_partTo_19 : decode cX4_partTo 19 = .ok (.invokevirtual 184, 3) := by decide +kernel
theorem dX4_partTo_22 : decode cX4_partTo 22 = .ok (.ifCond .ne 5, 3) := by decide +kernel
theorem dX4_partTo_25 : decode cX4_partTo 25 = .ok (.iconst (-1), 1) := by decide +kernel
theorem dX4_partTo_26 : decode cX4_partTo 26 = .ok (.ireturn, 1) := by decide +kernel
theorem dX4_partTo_27 : decode cX4_partTo 27 = .ok (.aload_n 3, 1) := by decide +kernel
theorem dX4_partTo_28 : decode cX4_partTo 28 = .ok (.aload_n 0, 1) := by decide +kernel
theorem dX4_partTo_29 : decode cX4_partTo 29 = .ok (.getfield 30, 3) := by decide +kernel
theorem dX4_partTo_32 : decode cX4_partTo 32 = .ok (.getfield 187, 3) := by decide +kernel
theorem dX4_partTo_35 : decode cX4_partTo 35 = .ok (.aload_n 0, 1) := by decide +kernel
theorem dX4_partTo_36 : decode cX4_partTo 36 = .ok (.getfield 30, 3) := by decide +kernel
theorem dX4_partTo_39 : decode cX4_partTo 39 = .ok (.iload_n 1, 1) := by decide +kernel
theorem dX4_partTo_40 : decode cX4_partTo 40 = .ok (.invokevirtual 190, 3) := by decide +kernel
theorem dX4_partTo_43 : decode cX4_partTo 43 = .ok (.aload_n 0, 1) := by decide +kernel
theorem dX4_partTo_44 : decode cX4_partTo 44 = .ok (.getfield 30, 3) := by decide +kernel
theorem dX4_partTo_47 : decode cX4_partTo 47 = .ok (.iload_n 1, 1) := by decide +kernel
theorem dX4_partTo_48 : decode cX4_partTo 48 = .ok (.invokevirtual 193, 3) := by decide +kernel
theorem dX4_partTo_51 : decode cX4_partTo 51 = .ok (.invokevirtual 129, 3) := by decide +kernel
theorem dX4_partTo_54 : decode cX4_partTo 54 = .ok (.ireturn, 1) := by decide +kernel
theorem dX4_joined_0 : decode cX4_joined 0 = .ok (.aload_n 0, 1) := by decide +kernel
theorem dX4_joined_1 : decode cX4_joined 1 = .ok (.iload_n 2, 1) := by decide +kernel
theorem dX4_joined_2 : decode cX4_joined 2 = .ok (.invokevirtual 97, 3) := by decide +kernel
theorem dX4_joined_5 : decode cX4_joined 5 = .ok (.astore_n 3, 1) := by decide +kernel
theorem dX4_joined_6 : decode cX4_joined 6 = .ok (.aload_n 3, 1) := by decide +kernel
theorem dX4_joined_7 : decode cX4_joined 7 = .ok (.ifnonnull 7, 3) := by decide +kernel
theorem dX4_joined_10 : decode cX4_joined 10 = .ok (.sipush (-1001), 3) := by decide +kernel
theorem dX4_joined_13 : decode cX4_joined 13 = .ok (.ireturn, 1) := by decide +kernel
theorem dX4_joined_14 : decode cX4_joined 14 = .ok (.iload_n 1, 1) := by decide +kernel
theorem dX4_joined_15 : decode cX4_joined 15 = .ok (.invokestatic 56, 3) := by decide +kernel
theorem dX4_joined_18 : decode cX4_joined 18 = .ok (.ifCond .ne 7, 3) := by decide +kernel
theorem dX4_joined_21 : decode cX4_joined 21 = .ok (.sipush (-1002), 3) := by decide +kernel
theorem dX4_joined_24 : decode cX4_joined 24 = .ok (.ireturn, 1) := by decide +kernel
theorem dX4_joined_25 : decode cX4_joined 25 = .ok (.aload_n 0, 1) := by decide +kernel
theorem dX4_joined_26 : decode cX4_joined 26 = .ok (.invokevirtual 86, 3) := by decide +kernel
theorem dX4_joined_29 : decode cX4_joined 29 = .ok (.astore 4, 2) := by decide +kernel
theorem dX4_joined_31 : decode cX4_joined 31 = .ok (.iconst 0, 1) := by decide +kernel
theorem dX4_joined_32 : decode cX4_joined 32 = .ok (.istore 5, 2) := by decide +kernel
theorem dX4_joined_34 : decode cX4_joined 34 = .ok (.iload 5, 2) := by decide +kernel
theorem dX4_joined_36 : decode cX4_joined 36 = .ok (.aload_n 0, 1) := by decide +kernel
theorem dX4_joined_37 : decode cX4_joined 37 = .ok (.getfield 30, 3) := by decide +kernel
theorem dX4_joined_40 : decode cX4_joined 40 = .ok (.getfield 181, 3) := by decide +kernel
theorem dX4_joined_43 : decode cX4_joined 43 = .ok (.if_icmp .ge 61, 3) := by decide +kernel
theorem dX4_joined_46 : decode cX4_joined 46 = .ok (.iload 5, 2) := by decide +kernel
theorem dX4_joined_48 : decode cX4_joined 48 = .ok (.ifCond .le 9, 3) := by decide +kernel
theorem dX4_joined_51 : decode cX4_joined 51 = .ok (.aload 4, 2) := by decide +kernel
theorem dX4_joined_53 : decode cX4_joined 53 = .ok (.iload_n 1, 1) := by decide +kernel
theorem dX4_joined_54 : decode cX4_joined 54 = .ok (.invokevirtual 48, 3) := by decide +kernel
theorem dX4_joined_57 : decode cX4_joined 57 = .ok (.aload 4, 2) := by decide +kernel
theorem dX4_joined_59 : decode cX4_joined 59 = .ok (.aload 4, 2) := by decide +kernel
theorem dX4_joined_61 : decode cX4_joined 61 = .ok (.getfield 60, 3) := by decide +kernel
theorem dX4_joined_64 : decode cX4_joined 64 = .ok (.aload 4, 2) := by decide +kernel
theorem dX4_joined_66 : decode cX4_joined 66 = .ok (.getfield 60, 3) := by decide +kernel
theorem dX4_joined_69 : decode cX4_joined 69 = .ok (.aload_n 0, 1) := by decide +kernel
theorem dX4_joined_70 : decode cX4_joined 70 = .ok (.getfield 30, 3) := by decide +kernel
theorem dX4_joined_73 : decode cX4_joined 73 = .ok (.getfield 187, 3) := by decide +kernel
theorem dX4_joined_76 : decode cX4_joined 76 = .ok (.aload_n 0, 1) := by decide +kernel
theorem dX4_joined_77 : decode cX4_joined 77 = .ok (.getfield 30, 3) := by decide +kernel
theorem dX4_joined_80 : decode cX4_joined 80 = .ok (.iload 5, 2) := by decide +kernel
theorem dX4_joined_82 : decode cX4_joined 82 = .ok (.invokevirtual 190, 3) := by decide +kernel
theorem dX4_joined_85 : decode cX4_joined 85 = .ok (.aload_n 0, 1) := by decide +kernel
theorem dX4_joined_86 : decode cX4_joined 86 = .ok (.getfield 30, 3) := by decide +kernel
theorem dX4_joined_89 : decode cX4_joined 89 = .ok (.iload 5, 2) := by decide +kernel
theorem dX4_joined_91 : decode cX4_joined 91 = .ok (.invokevirtual 193, 3) := by decide +kernel
theorem dX4_joined_94 : decode cX4_joined 94 = .ok (.invokevirtual 78, 3) := by decide +kernel
theorem dX4_joined_97 : decode cX4_joined 97 = .ok (.pop, 1) := by decide +kernel
theorem dX4_joined_98 : decode cX4_joined 98 = .ok (.iinc 5 1, 3) := by decide +kernel
theorem dX4_joined_101 : decode cX4_joined 101 = .ok (.goto (-67), 3) := by decide +kernel
theorem dX4_joined_104 : decode cX4_joined 104 = .ok (.aload_n 3, 1) := by decide +kernel
theorem dX4_joined_105 : decode cX4_joined 105 = .ok (.aload 4, 2) := by decide +kernel
theorem dX4_joined_107 : decode cX4_joined 107 = .ok (.iconst 0, 1) := by decide +kernel
theorem dX4_joined_108 : decode cX4_joined 108 = .ok (.aload 4, 2) := by decide +kernel
theorem dX4_joined_110 : decode cX4_joined 110 = .ok (.getfield 60, 3) := by decide +kernel
theorem dX4_joined_113 : decode cX4_joined 113 = .ok (.invokevirtual 129, 3) := by decide +kernel
theorem dX4_joined_116 : decode cX4_joined 116 = .ok (.ireturn, 1) := by decide +kernel
theorem dX4_cutter_0 : decode cX4_cutter 0 = .ok (.aload_n 0, 1) := by decide +kernel
theorem dX4_cutter_1 : decode cX4_cutter 1 = .ok (.iload_n 1, 1) := by decide +kernel
theorem dX4_cutter_2 : decode cX4_cutter 2 = .ok (.invokevirtual 196, 3) := by decide +kernel
theorem dX4_cutter_5 : decode cX4_cutter 5 = .ok (.astore 5, 2) := by decide +kernel
theorem dX4_cutter_7 : decode cX4_cutter 7 = .ok (.aload_n 0, 1) := by decide +kernel
theorem dX4_cutter_8 : decode cX4_cutter 8 = .ok (.iload_n 2, 1) := by decide +kernel
theorem dX4_cutter_9 : decode cX4_cutter 9 = .ok (.invokevirtual 97, 3) := by decide +kernel
theorem dX4_cutter_12 : decode cX4_cutter 12 = .ok (.astore 6, 2) := by decide +kernel
theorem dX4_cutter_14 : decode cX4_cutter 14 = .ok (.aload_n 0, 1) := by decide +kernel
theorem dX4_cutter_15 : decode cX4_cutter 15 = .ok (.iload_n 3, 1) := by decide +kernel
theorem dX4_cutter_16 : decode cX4_cutter 16 = .ok (.invokevirtual 97, 3) := by decide +kernel
theorem dX4_cutter_19 : decode cX4_cutter 19 = .ok (.astore 7, 2) := by decide +kernel
theorem dX4_cutter_21 : decode cX4_cutter 21 = .ok (.aload 5, 2) := by decide +kernel
theorem dX4_cutter_23 : decode cX4_cutter 23 = .ok (.ifnull 13, 3) := by decide +kernel
theorem dX4_cutter_26 : decode cX4_cutter 26 = .ok (.aload 6, 2) := by decide +kernel
theorem dX4_cutter_28 : decode cX4_cutter 28 = .ok (.ifnull 8, 3) := by decide +kernel
theorem dX4_cutter_31 : decode cX4_cutter 31 = .ok (.aload 7, 2) := by decide +kernel
theorem dX4_cutter_33 : decode cX4_cutter 33 = .ok (.ifnonnull 7, 3) := by decide +kernel
theorem dX4_cutter_36 : decode cX4_cutter 36 = .ok (.sipush (-1001), 3) := by decide +kernel
theorem dX4_cutter_39 : decode cX4_cutter 39 = .ok (.ireturn, 1) := by decide +kernel
theorem dX4_cutter_40 : decode cX4_cutter 40 = .ok (.aload 6, 2) := by decide +kernel
theorem dX4_cutter_42 : decode cX4_cutter 42 = .ok (.getfield 101, 3) := by decide +kernel
theorem dX4_cutter_45 : decode cX4_cutter 45 = .ok (.ifCond .ne 11, 3) := by decide +kernel
theorem dX4_cutter_48 : decode cX4_cutter 48 = .ok (.aload 7, 2) := by decide +kernel
theorem dX4_cutter_50 : decode cX4_cutter 50 = .ok (.getfield 101, 3) := by decide +kernel
theorem dX4_cutter_53 : decode cX4_cutter 53 = .ok (.ifCond .eq 7, 3) := by decide +kernel
theorem dX4_cutter_56 : decode cX4_cutter 56 = .ok (.sipush (-1003), 3) := by decide +kernel
theorem dX4_cutter_59 : decode cX4_cutter 59 = .ok (.ireturn, 1) := by decide +kernel
theorem dX4_cutter_60 : decode cX4_cutter 60 = .ok (.aload 5, 2) := by decide +kernel
theorem dX4_cutter_62 : decode cX4_cutter 62 = .ok (.aload 6, 2) := by decide +kernel
theorem dX4_cutter_64 : decode cX4_cutter 64 = .ok (.getfield 105, 3) := by decide +kernel
theorem dX4_cutter_67 : decode cX4_cutter 67 = .ok (.aload 7, 2) := by decide +kernel
theorem dX4_cutter_69 : decode cX4_cutter 69 = .ok (.getfield 105, 3) := by decide +kernel
theorem dX4_cutter_72 : decode cX4_cutter 72 = .ok (.iload 4, 2) := by decide +kernel
theorem dX4_cutter_74 : decode cX4_cutter 74 = .ok (.invokevirtual 200, 3) := by decide +kernel
theorem dX4_cutter_77 : decode cX4_cutter 77 = .ok (.aload 5, 2) := by decide +kernel
theorem dX4_cutter_79 : decode cX4_cutter 79 = .ok (.invokevirtual 204, 3) := by decide +kernel
theorem dX4_cutter_82 : decode cX4_cutter 82 = .ok (.ireturn, 1) := by decide +kernel
theorem dX4_more_0 : decode cX4_more 0 = .ok (.aload_n 0, 1) := by decide +kernel
theorem dX4_more_1 : decode cX4_more 1 = .ok (.iload_n 1, 1) := by decide +kernel
theorem dX4_more_2 : decode cX4_more 2 = .ok (.invokevirtual 196, 3) := by decide +kernel
theorem dX4_more_5 : decode cX4_more 5 = .ok (.astore_n 2, 1) := by decide +kernel
theorem dX4_more_6 : decode cX4_more 6 = .ok (.aload_n 2, 1) := by decide +kernel
theorem dX4_more_7 : decode cX4_more 7 = .ok (.ifnonnull 7, 3) := by decide +kernel
theorem dX4_more_10 : decode cX4_more 10 = .ok (.sipush (-1001), 3) := by decide +kernel
theorem dX4_more_13 : decode cX4_more 13 = .ok (.ireturn, 1) := by decide +kernel
theorem dX4_more_14 : decode cX4_more 14 = .ok (.aload_n 2, 1) := by decide +kernel
theorem dX4_more_15 : decode cX4_more 15 = .ok (.getfield 207, 3) := by decide +kernel
theorem dX4_more_18 : decode cX4_more 18 = .ok (.ifCond .eq 7, 3) := by decide +kernel
theorem dX4_more_21 : decode cX4_more 21 = .ok (.sipush (-1003), 3) := by decide +kernel
theorem dX4_more_24 : decode cX4_more 24 = .ok (.ireturn, 1) := by decide +kernel
theorem dX4_more_25 : decode cX4_more 25 = .ok (.aload_n 2, 1) := by decide +kernel
theorem dX4_more_26 : decode cX4_more 26 = .ok (.invokevirtual 208, 3) := by decide +kernel
theorem dX4_more_29 : decode cX4_more 29 = .ok (.ifCond .eq 7, 3) := by decide +kernel
theorem dX4_more_32 : decode cX4_more 32 = .ok (.iconst 1, 1) := by decide +kernel
theorem dX4_more_33 : decode cX4_more 33 = .ok (.goto 4, 3) := by decide +kernel
theorem dX4_more_36 : decode cX4_more 36 = .ok (.iconst 0, 1) := by decide +kernel
theorem dX4_more_37 : decode cX4_more 37 = .ok (.ireturn, 1) := by decide +kernel
theorem dX4_left_0 : decode cX4_left 0 = .ok (.aload_n 0, 1) := by decide +kernel
theorem dX4_left_1 : decode cX4_left 1 = .ok (.iload_n 1, 1) := by decide +kernel
theorem dX4_left_2 : decode cX4_left 2 = .ok (.invokevirtual 196, 3) := by decide +kernel
theorem dX4_left_5 : decode cX4_left 5 = .ok (.astore_n 2, 1) := by decide +kernel
theorem dX4_left_6 : decode cX4_left 6 = .ok (.aload_n 2, 1) := by decide +kernel
theorem dX4_left_7 : decode cX4_left 7 = .ok (.ifnonnull 7, 3) := by decide +kernel
theorem dX4_left_10 : decode cX4_left 10 = .ok (.sipush (-1001), 3) := by decide +kernel
theorem dX4_left_13 : decode cX4_left 13 = .ok (.ireturn, 1) := by decide +kernel
theorem dX4_left_14 : decode cX4_left 14 = .ok (.aload_n 2, 1) := by decide +kernel
theorem dX4_left_15 : decode cX4_left 15 = .ok (.getfield 207, 3) := by decide +kernel
theorem dX4_left_18 : decode cX4_left 18 = .ok (.ifCond .eq 9, 3) := by decide +kernel
theorem dX4_left_21 : decode cX4_left 21 = .ok (.sipush (-1003), 3) := by decide +kernel
theorem dX4_left_24 : decode cX4_left 24 = .ok (.goto 7, 3) := by decide +kernel
theorem dX4_left_27 : decode cX4_left 27 = .ok (.aload_n 2, 1) := by decide +kernel
theorem dX4_left_28 : decode cX4_left 28 = .ok (.invokevirtual 204, 3) := by decide +kernel
theorem dX4_left_31 : decode cX4_left 31 = .ok (.ireturn, 1) := by decide +kernel
theorem dX4_next_0 : decode cX4_next 0 = .ok (.aload_n 0, 1) := by decide +kernel
theorem dX4_next_1 : decode cX4_next 1 = .ok (.iload_n 1, 1) := by decide +kernel
theorem dX4_next_2 : decode cX4_next 2 = .ok (.invokevirtual 196, 3) := by decide +kernel
theorem dX4_next_5 : decode cX4_next 5 = .ok (.astore_n 3, 1) := by decide +kernel
theorem dX4_next_6 : decode cX4_next 6 = .ok (.aload_n 0, 1) := by decide +kernel
theorem dX4_next_7 : decode cX4_next 7 = .ok (.iload_n 2, 1) := by decide +kernel
theorem dX4_next_8 : decode cX4_next 8 = .ok (.invokevirtual 97, 3) := by decide +kernel
theorem dX4_next_11 : decode cX4_next 11 = .ok (.astore 4, 2) := by decide +kernel
theorem dX4_next_13 : decode cX4_next 13 = .ok (.aload_n 3, 1) := by decide +kernel
theorem dX4_next_14 : decode cX4_next 14 = .ok (.ifnull 8, 3) := by decide +kernel
theorem dX4_next_17 : decode cX4_next 17 = .ok (.aload 4, 2) := by decide +kernel
theorem dX4_next_19 : decode cX4_next 19 = .ok (.ifnonnull 7, 3) := by decide +kernel
theorem dX4_next_22 : decode cX4_next 22 = .ok (.sipush (-1001), 3) := by decide +kernel
theorem dX4_next_25 : decode cX4_next 25 = .ok (.ireturn, 1) := by decide +kernel
theorem dX4_next_26 : decode cX4_next 26 = .ok (.aload_n 3, 1) := by decide +kernel
theorem dX4_next_27 : decode cX4_next 27 = .ok (.getfield 207, 3) := by decide +kernel
theorem dX4_next_30 : decode cX4_next 30 = .ok (.ifCond .eq 9, 3) := by decide +kernel
theorem dX4_next_33 : decode cX4_next 33 = .ok (.sipush (-1003), 3) := by decide +kernel
theorem dX4_next_36 : decode cX4_next 36 = .ok (.goto 9, 3) := by decide +kernel
theorem dX4_next_39 : decode cX4_next 39 = .ok (.aload_n 3, 1) := by decide +kernel
theorem dX4_next_40 : decode cX4_next 40 = .ok (.aload 4, 2) := by decide +kernel
theorem dX4_next_42 : decode cX4_next 42 = .ok (.invokevirtual 212, 3) := by decide +kernel
theorem dX4_next_45 : decode cX4_next 45 = .ok (.ireturn, 1) := by decide +kernel
theorem dX4_nextBy_0 : decode cX4_nextBy 0 = .ok (.aload_n 0, 1) := by decide +kernel
theorem dX4_nextBy_1 : decode cX4_nextBy 1 = .ok (.iload_n 1, 1) := by decide +kernel
theorem dX4_nextBy_2 : decode cX4_nextBy 2 = .ok (.invokevirtual 196, 3) := by decide +kernel
theorem dX4_nextBy_5 : decode cX4_nextBy 5 = .ok (.astore 4, 2) := by decide +kernel
theorem dX4_nextBy_7 : decode cX4_nextBy 7 = .ok (.aload_n 0, 1) := by decide +kernel
theorem dX4_nextBy_8 : decode cX4_nextBy 8 = .ok (.iload_n 2, 1) := by decide +kernel
theorem dX4_nextBy_9 : decode cX4_nextBy 9 = .ok (.invokevirtual 97, 3) := by decide +kernel
theorem dX4_nextBy_12 : decode cX4_nextBy 12 = .ok (.astore 5, 2) := by decide +kernel
theorem dX4_nextBy_14 : decode cX4_nextBy 14 = .ok (.aload_n 0, 1) := by decide +kernel
theorem dX4_nextBy_15 : decode cX4_nextBy 15 = .ok (.iload_n 3, 1) := by decide +kernel
theorem dX4_nextBy_16 : decode cX4_nextBy 16 = .ok (.invokevirtual 97, 3) := by decide +kernel
theorem dX4_nextBy_19 : decode cX4_nextBy 19 = .ok (.astore 6, 2) := by decide +kernel
theorem dX4_nextBy_21 : decode cX4_nextBy 21 = .ok (.aload 4, 2) := by decide +kernel
theorem dX4_nextBy_23 : decode cX4_nextBy 23 = .ok (.ifnull 13, 3) := by decide +kernel
theorem dX4_nextBy_26 : decode cX4_nextBy 26 = .ok (.aload 5, 2) := by decide +kernel
theorem dX4_nextBy_28 : decode cX4_nextBy 28 = .ok (.ifnull 8, 3) := by decide +kernel
theorem dX4_nextBy_31 : decode cX4_nextBy 31 = .ok (.aload 6, 2) := by decide +kernel
theorem dX4_nextBy_33 : decode cX4_nextBy 33 = .ok (.ifnonnull 7, 3) := by decide +kernel
theorem dX4_nextBy_36 : decode cX4_nextBy 36 = .ok (.sipush (-1001), 3) := by decide +kernel
theorem dX4_nextBy_39 : decode cX4_nextBy 39 = .ok (.ireturn, 1) := by decide +kernel
theorem dX4_nextBy_40 : decode cX4_nextBy 40 = .ok (.aload 4, 2) := by decide +kernel
theorem dX4_nextBy_42 : decode cX4_nextBy 42 = .ok (.getfield 207, 3) := by decide +kernel
theorem dX4_nextBy_45 : decode cX4_nextBy 45 = .ok (.ifCond .ne 11, 3) := by decide +kernel
theorem dX4_nextBy_48 : decode cX4_nextBy 48 = .ok (.aload 5, 2) := by decide +kernel
theorem dX4_nextBy_50 : decode cX4_nextBy 50 = .ok (.getfield 101, 3) := by decide +kernel
theorem dX4_nextBy_53 : decode cX4_nextBy 53 = .ok (.ifCond .eq 7, 3) := by decide +kernel
theorem dX4_nextBy_56 : decode cX4_nextBy 56 = .ok (.sipush (-1003), 3) := by decide +kernel
theorem dX4_nextBy_59 : decode cX4_nextBy 59 = .ok (.ireturn, 1) := by decide +kernel
theorem dX4_nextBy_60 : decode cX4_nextBy 60 = .ok (.aload 4, 2) := by decide +kernel
theorem dX4_nextBy_62 : decode cX4_nextBy 62 = .ok (.aload 5, 2) := by decide +kernel
theorem dX4_nextBy_64 : decode cX4_nextBy 64 = .ok (.getfield 105, 3) := by decide +kernel
theorem dX4_nextBy_67 : decode cX4_nextBy 67 = .ok (.invokevirtual 216, 3) := by decide +kernel
theorem dX4_nextBy_70 : decode cX4_nextBy 70 = .ok (.aload 4, 2) := by decide +kernel
theorem dX4_nextBy_72 : decode cX4_nextBy 72 = .ok (.aload 6, 2) := by decide +kernel
theorem dX4_nextBy_74 : decode cX4_nextBy 74 = .ok (.invokevirtual 212, 3) := by decide +kernel
theorem dX4_nextBy_77 : decode cX4_nextBy 77 = .ok (.ireturn, 1) := by decide +kernel
theorem dX4_digest_0 : decode cX4_digest 0 = .ok (.ldc2_w 220, 3) := by decide +kernel
theorem dX4_digest_3 : decode cX4_digest 3 = .ok (.lstore_n 1, 1) := by decide +kernel
theorem dX4_digest_4 : decode cX4_digest 4 = .ok (.iconst 0, 1) := by decide +kernel
theorem dX4_digest_5 : decode cX4_digest 5 = .ok (.istore_n 3, 1) := by decide +kernel
theorem dX4_digest_6 : decode cX4_digest 6 = .ok (.iload_n 3, 1) := by decide +kernel
theorem dX4_digest_7 : decode cX4_digest 7 = .ok (.aload_n 0, 1) := by decide +kernel
theorem dX4_digest_8 : decode cX4_digest 8 = .ok (.getfield 11, 3) := by decide +kernel
theorem dX4_digest_11 : decode cX4_digest 11 = .ok (.arraylength, 1) := by decide +kernel
theorem dX4_digest_12 : decode cX4_digest 12 = .ok (.if_icmp .ge 30, 3) := by decide +kernel
theorem dX4_digest_15 : decode cX4_digest 15 = .ok (.lload_n 1, 1) := by decide +kernel
theorem dX4_digest_16 : decode cX4_digest 16 = .ok (.aload_n 0, 1) := by decide +kernel
theorem dX4_digest_17 : decode cX4_digest 17 = .ok (.getfield 11, 3) := by decide +kernel
theorem dX4_digest_20 : decode cX4_digest 20 = .ok (.iload_n 3, 1) := by decide +kernel
theorem dX4_digest_21 : decode cX4_digest 21 = .ok (.aaload, 1) := by decide +kernel
theorem dX4_digest_22 : decode cX4_digest 22 = .ok (.iconst 0, 1) := by decide +kernel
theorem dX4_digest_23 : decode cX4_digest 23 = .ok (.aload_n 0, 1) := by decide +kernel
theorem dX4_digest_24 : decode cX4_digest 24 = .ok (.getfield 11, 3) := by decide +kernel
theorem dX4_digest_27 : decode cX4_digest 27 = .ok (.iload_n 3, 1) := by decide +kernel
theorem dX4_digest_28 : decode cX4_digest 28 = .ok (.aaload, 1) := by decide +kernel
theorem dX4_digest_29 : decode cX4_digest 29 = .ok (.getfield 60, 3) := by decide +kernel
theorem dX4_digest_32 : decode cX4_digest 32 = .ok (.invokestatic 222, 3) := by decide +kernel
theorem dX4_digest_35 : decode cX4_digest 35 = .ok (.lstore_n 1, 1) := by decide +kernel
theorem dX4_digest_36 : decode cX4_digest 36 = .ok (.iinc 3 1, 3) := by decide +kernel
theorem dX4_digest_39 : decode cX4_digest 39 = .ok (.goto (-33), 3) := by decide +kernel
theorem dX4_digest_42 : decode cX4_digest 42 = .ok (.iconst 0, 1) := by decide +kernel
theorem dX4_digest_43 : decode cX4_digest 43 = .ok (.istore_n 3, 1) := by decide +kernel
theorem dX4_digest_44 : decode cX4_digest 44 = .ok (.iload_n 3, 1) := by decide +kernel
theorem dX4_digest_45 : decode cX4_digest 45 = .ok (.aload_n 0, 1) := by decide +kernel
theorem dX4_digest_46 : decode cX4_digest 46 = .ok (.getfield 17, 3) := by decide +kernel
theorem dX4_digest_49 : decode cX4_digest 49 = .ok (.arraylength, 1) := by decide +kernel
theorem dX4_digest_50 : decode cX4_digest 50 = .ok (.if_icmp .ge 52, 3) := by decide +kernel
theorem dX4_digest_53 : decode cX4_digest 53 = .ok (.aload_n 0, 1) := by decide +kernel
theorem dX4_digest_54 : decode cX4_digest 54 = .ok (.getfield 17, 3) := by decide +kernel
theorem dX4_digest_57 : decode cX4_digest 57 = .ok (.iload_n 3, 1) := by decide +kernel
theorem dX4_digest_58 : decode cX4_digest 58 = .ok (.aaload, 1) := by decide +kernel
theorem dX4_digest_59 : decode cX4_digest 59 = .ok (.astore 4, 2) := by decide +kernel
theorem dX4_digest_61 : decode cX4_digest 61 = .ok (.aload 4, 2) := by decide +kernel
theorem dX4_digest_63 : decode cX4_digest 63 = .ok (.getfield 101, 3) := by decide +kernel
theorem dX4_digest_66 : decode cX4_digest 66 = .ok (.ifCond .eq 11, 3) := by decide +kernel
theorem dX4_digest_69 : decode cX4_digest 69 = .ok (.lload_n 1, 1) := by decide +kernel
theorem dX4_digest_70 : decode cX4_digest 70 = .ok (.iconst (-1), 1) := by decide +kernel
theorem dX4_digest_71 : decode cX4_digest 71 = .ok (.invokestatic 226, 3) := by decide +kernel
theorem dX4_digest_74 : decode cX4_digest 74 = .ok (.goto 21, 3) := by decide +kernel
theorem dX4_digest_77 : decode cX4_digest 77 = .ok (.lload_n 1, 1) := by decide +kernel
theorem dX4_digest_78 : decode cX4_digest 78 = .ok (.aload 4, 2) := by decide +kernel
theorem dX4_digest_80 : decode cX4_digest 80 = .ok (.getfield 105, 3) := by decide +kernel
theorem dX4_digest_83 : decode cX4_digest 83 = .ok (.iconst 0, 1) := by decide +kernel
theorem dX4_digest_84 : decode cX4_digest 84 = .ok (.aload 4, 2) := by decide +kernel
theorem dX4_digest_86 : decode cX4_digest 86 = .ok (.getfield 105, 3) := by decide +kernel
theorem dX4_digest_89 : decode cX4_digest 89 = .ok (.getfield 60, 3) := by decide +kernel
theorem dX4_digest_92 : decode cX4_digest 92 = .ok (.invokestatic 222, 3) := by decide +kernel
theorem dX4_digest_95 : decode cX4_digest 95 = .ok (.lstore_n 1, 1) := by decide +kernel
theorem dX4_digest_96 : decode cX4_digest 96 = .ok (.iinc 3 1, 3) := by decide +kernel
theorem dX4_digest_99 : decode cX4_digest 99 = .ok (.goto (-55), 3) := by decide +kernel
theorem dX4_digest_102 : decode cX4_digest 102 = .ok (.lload_n 1, 1) := by decide +kernel
theorem dX4_digest_103 : decode cX4_digest 103 = .ok (.aload_n 0, 1) := by decide +kernel
theorem dX4_digest_104 : decode cX4_digest 104 = .ok (.getfield 30, 3) := by decide +kernel
theorem dX4_digest_107 : decode cX4_digest 107 = .ok (.getfield 181, 3) := by decide +kernel
theorem dX4_digest_110 : decode cX4_digest 110 = .ok (.invokestatic 226, 3) := by decide +kernel
theorem dX4_digest_113 : decode cX4_digest 113 = .ok (.lstore_n 1, 1) := by decide +kernel
theorem dX4_digest_114 : decode cX4_digest 114 = .ok (.iconst 0, 1) := by decide +kernel
theorem dX4_digest_115 : decode cX4_digest 115 = .ok (.istore_n 3, 1) := by decide +kernel
theorem dX4_digest_116 : decode cX4_digest 116 = .ok (.iload_n 3, 1) := by decide +kernel
theorem dX4_digest_117 : decode cX4_digest 117 = .ok (.aload_n 0, 1) := by decide +kernel
theorem dX4_digest_118 : decode cX4_digest 118 = .ok (.getfield 30, 3) := by decide +kernel
theorem dX4_digest_121 : decode cX4_digest 121 = .ok (.getfield 181, 3) := by decide +kernel
theorem dX4_digest_124 : decode cX4_digest 124 = .ok (.if_icmp .ge 37, 3) := by decide +kernel
theorem dX4_digest_127 : decode cX4_digest 127 = .ok (.lload_n 1, 1) := by decide +kernel
theorem dX4_digest_128 : decode cX4_digest 128 = .ok (.aload_n 0, 1) := by decide +kernel
theorem dX4_digest_129 : decode cX4_digest 129 = .ok (.getfield 30, 3) := by decide +kernel
theorem dX4_digest_132 : decode cX4_digest 132 = .ok (.getfield 187, 3) := by decide +kernel
theorem dX4_digest_135 : decode cX4_digest 135 = .ok (.aload_n 0, 1) := by decide +kernel
theorem dX4_digest_136 : decode cX4_digest 136 = .ok (.getfield 30, 3) := by decide +kernel
theorem dX4_digest_139 : decode cX4_digest 139 = .ok (.iload_n 3, 1) := by decide +kernel
theorem dX4_digest_140 : decode cX4_digest 140 = .ok (.invokevirtual 190, 3) := by decide +kernel
theorem dX4_digest_143 : decode cX4_digest 143 = .ok (.aload_n 0, 1) := by decide +kernel
theorem dX4_digest_144 : decode cX4_digest 144 = .ok (.getfield 30, 3) := by decide +kernel
theorem dX4_digest_147 : decode cX4_digest 147 = .ok (.iload_n 3, 1) := by decide +kernel
theorem dX4_digest_148 : decode cX4_digest 148 = .ok (.invokevirtual 193, 3) := by decide +kernel
theorem dX4_digest_151 : decode cX4_digest 151 = .ok (.invokestatic 222, 3) := by decide +kernel
theorem dX4_digest_154 : decode cX4_digest 154 = .ok (.lstore_n 1, 1) := by decide +kernel
theorem dX4_digest_155 : decode cX4_digest 155 = .ok (.iinc 3 1, 3) := by decide +kernel
theorem dX4_digest_158 : decode cX4_digest 158 = .ok (.goto (-42), 3) := by decide +kernel
theorem dX4_digest_161 : decode cX4_digest 161 = .ok (.iconst 0, 1) := by decide +kernel
theorem dX4_digest_162 : decode cX4_digest 162 = .ok (.istore_n 3, 1) := by decide +kernel
theorem dX4_digest_163 : decode cX4_digest 163 = .ok (.iload_n 3, 1) := by decide +kernel
theorem dX4_digest_164 : decode cX4_digest 164 = .ok (.aload_n 0, 1) := by decide +kernel
theorem dX4_digest_165 : decode cX4_digest 165 = .ok (.getfield 23, 3) := by decide +kernel
theorem dX4_digest_168 : decode cX4_digest 168 = .ok (.arraylength, 1) := by decide +kernel
theorem dX4_digest_169 : decode cX4_digest 169 = .ok (.if_icmp .ge 39, 3) := by decide +kernel
theorem dX4_digest_172 : decode cX4_digest 172 = .ok (.lload_n 1, 1) := by decide +kernel
theorem dX4_digest_173 : decode cX4_digest 173 = .ok (.aload_n 0, 1) := by decide +kernel
theorem dX4_digest_174 : decode cX4_digest 174 = .ok (.getfield 23, 3) := by decide +kernel
theorem dX4_digest_177 : decode cX4_digest 177 = .ok (.iload_n 3, 1) := by decide +kernel
theorem dX4_digest_178 : decode cX4_digest 178 = .ok (.aaload, 1) := by decide +kernel
theorem dX4_digest_179 : decode cX4_digest 179 = .ok (.getfield 207, 3) := by decide +kernel
theorem dX4_digest_182 : decode cX4_digest 182 = .ok (.ifCond .eq 7, 3) := by decide +kernel
theorem dX4_digest_185 : decode cX4_digest 185 = .ok (.iconst (-1), 1) := by decide +kernel
theorem dX4_digest_186 : decode cX4_digest 186 = .ok (.goto 12, 3) := by decide +kernel
theorem dX4_digest_189 : decode cX4_digest 189 = .ok (.aload_n 0, 1) := by decide +kernel
theorem dX4_digest_190 : decode cX4_digest 190 = .ok (.getfield 23, 3) := by decide +kernel
theorem dX4_digest_193 : decode cX4_digest 193 = .ok (.iload_n 3, 1) := by decide +kernel
theorem dX4_digest_194 : decode cX4_digest 194 = .ok (.aaload, 1) := by decide +kernel
theorem dX4_digest_195 : decode cX4_digest 195 = .ok (.invokevirtual 204, 3) := by decide +kernel
theorem dX4_digest_198 : decode cX4_digest 198 = .ok (.invokestatic 226, 3) := by decide +kernel
theorem dX4_digest_201 : decode cX4_digest 201 = .ok (.lstore_n 1, 1) := by decide +kernel
theorem dX4_digest_202 : decode cX4_digest 202 = .ok (.iinc 3 1, 3) := by decide +kernel
theorem dX4_digest_205 : decode cX4_digest 205 = .ok (.goto (-42), 3) := by decide +kernel
theorem dX4_digest_208 : decode cX4_digest 208 = .ok (.lload_n 1, 1) := by decide +kernel
theorem dX4_digest_209 : decode cX4_digest 209 = .ok (.lreturn, 1) := by decide +kernel
theorem dX4_mixed_0 : decode cX4_mixed 0 = .ok (.ldc2_w 230, 3) := by decide +kernel
theorem dX4_mixed_3 : decode cX4_mixed 3 = .ok (.lload_n 0, 1) := by decide +kernel
theorem dX4_mixed_4 : decode cX4_mixed 4 = .ok (.lmul, 1) := by decide +kernel
theorem dX4_mixed_5 : decode cX4_mixed 5 = .ok (.iload_n 2, 1) := by decide +kernel
theorem dX4_mixed_6 : decode cX4_mixed 6 = .ok (.i2l, 1) := by decide +kernel
theorem dX4_mixed_7 : decode cX4_mixed 7 = .ok (.ladd, 1) := by decide +kernel
theorem dX4_mixed_8 : decode cX4_mixed 8 = .ok (.lreturn, 1) := by decide +kernel
theorem dX4_mixedRow_0 : decode cX4_mixedRow 0 = .ok (.lload_n 0, 1) := by decide +kernel
theorem dX4_mixedRow_1 : decode cX4_mixedRow 1 = .ok (.iload 4, 2) := by decide +kernel
theorem dX4_mixedRow_3 : decode cX4_mixedRow 3 = .ok (.iload_n 3, 1) := by decide +kernel
theorem dX4_mixedRow_4 : decode cX4_mixedRow 4 = .ok (.isub, 1) := by decide +kernel
theorem dX4_mixedRow_5 : decode cX4_mixedRow 5 = .ok (.invokestatic 226, 3) := by decide +kernel
theorem dX4_mixedRow_8 : decode cX4_mixedRow 8 = .ok (.lstore 5, 2) := by decide +kernel
theorem dX4_mixedRow_10 : decode cX4_mixedRow 10 = .ok (.iload_n 3, 1) := by decide +kernel
theorem dX4_mixedRow_11 : decode cX4_mixedRow 11 = .ok (.istore 7, 2) := by decide +kernel
theorem dX4_mixedRow_13 : decode cX4_mixedRow 13 = .ok (.iload 7, 2) := by decide +kernel
theorem dX4_mixedRow_15 : decode cX4_mixedRow 15 = .ok (.iload 4, 2) := by decide +kernel
theorem dX4_mixedRow_17 : decode cX4_mixedRow 17 = .ok (.if_icmp .ge 22, 3) := by decide +kernel
theorem dX4_mixedRow_20 : decode cX4_mixedRow 20 = .ok (.lload 5, 2) := by decide +kernel
theorem dX4_mixedRow_22 : decode cX4_mixedRow 22 = .ok (.aload_n 2, 1) := by decide +kernel
theorem dX4_mixedRow_23 : decode cX4_mixedRow 23 = .ok (.iload 7, 2) := by decide +kernel
theorem dX4_mixedRow_25 : decode cX4_mixedRow 25 = .ok (.invokevirtual 111, 3) := by decide +kernel
theorem dX4_mixedRow_28 : decode cX4_mixedRow 28 = .ok (.invokestatic 226, 3) := by decide +kernel
theorem dX4_mixedRow_31 : decode cX4_mixedRow 31 = .ok (.lstore 5, 2) := by decide +kernel
theorem dX4_mixedRow_33 : decode cX4_mixedRow 33 = .ok (.iinc 7 1, 3) := by decide +kernel
theorem dX4_mixedRow_36 : decode cX4_mixedRow 36 = .ok (.goto (-23), 3) := by decide +kernel
theorem dX4_mixedRow_39 : decode cX4_mixedRow 39 = .ok (.lload 5, 2) := by decide +kernel
theorem dX4_mixedRow_41 : decode cX4_mixedRow 41 = .ok (.lreturn, 1) := by decide +kernel
theorem dX4_isSign_0 : decode cX4_isSign 0 = .ok (.iload_n 0, 1) := by decide +kernel
theorem dX4_isSign_1 : decode cX4_isSign 1 = .ok (.ifCond .lt 14, 3) := by decide +kernel
theorem dX4_isSign_4 : decode cX4_isSign 4 = .ok (.iload_n 0, 1) := by decide +kernel
theorem dX4_isSign_5 : decode cX4_isSign 5 = .ok (.sipush 256, 3) := by decide +kernel
theorem dX4_isSign_8 : decode cX4_isSign 8 = .ok (.if_icmp .ge 7, 3) := by decide +kernel
theorem dX4_isSign_11 : decode cX4_isSign 11 = .ok (.iconst 1, 1) := by decide +kernel
theorem dX4_isSign_12 : decode cX4_isSign 12 = .ok (.goto 4, 3) := by decide +kernel
theorem dX4_isSign_15 : decode cX4_isSign 15 = .ok (.iconst 0, 1) := by decide +kernel
theorem dX4_isSign_16 : decode cX4_isSign 16 = .ok (.ireturn, 1) := by decide +kernel
theorem dX4_isSeparator_0 : decode cX4_isSeparator 0 = .ok (.iconst 0, 1) := by decide +kernel
theorem dX4_isSeparator_1 : decode cX4_isSeparator 1 = .ok (.istore_n 1, 1) := by decide +kernel
theorem dX4_isSeparator_2 : decode cX4_isSeparator 2 = .ok (.iload_n 1, 1) := by decide +kernel
theorem dX4_isSeparator_3 : decode cX4_isSeparator 3 = .ok (.getstatic 232, 3) := by decide +kernel
theorem dX4_isSeparator_6 : decode cX4_isSeparator 6 = .ok (.arraylength, 1) := by decide +kernel
theorem dX4_isSeparator_7 : decode cX4_isSeparator 7 = .ok (.if_icmp .ge 20, 3) := by decide +kernel
theorem dX4_isSeparator_10 : decode cX4_isSeparator 10 = .ok (.getstatic 232, 3) := by decide +kernel
theorem dX4_isSeparator_13 : decode cX4_isSeparator 13 = .ok (.iload_n 1, 1) := by decide +kernel
theorem dX4_isSeparator_14 : decode cX4_isSeparator 14 = .ok (.iaload, 1) := by decide +kernel
theorem dX4_isSeparator_15 : decode cX4_isSeparator 15 = .ok (.iload_n 0, 1) := by decide +kernel
theorem dX4_isSeparator_16 : decode cX4_isSeparator 16 = .ok (.if_icmp .ne 5, 3) := by decide +kernel
theorem dX4_isSeparator_19 : decode cX4_isSeparator 19 = .ok (.iconst 0, 1) := by decide +kernel
theorem dX4_isSeparator_20 : decode cX4_isSeparator 20 = .ok (.ireturn, 1) := by decide +kernel
theorem dX4_isSeparator_21 : decode cX4_isSeparator 21 = .ok (.iinc 1 1, 3) := by decide +kernel
theorem dX4_isSeparator_24 : decode cX4_isSeparator 24 = .ok (.goto (-22), 3) := by decide +kernel
theorem dX4_isSeparator_27 : decode cX4_isSeparator 27 = .ok (.iload_n 0, 1) := by decide +kernel
theorem dX4_isSeparator_28 : decode cX4_isSeparator 28 = .ok (.invokestatic 56, 3) := by decide +kernel
theorem dX4_isSeparator_31 : decode cX4_isSeparator 31 = .ok (.ireturn, 1) := by decide +kernel
theorem dX4_builderOf_0 : decode cX4_builderOf 0 = .ok (.iload_n 1, 1) := by decide +kernel
theorem dX4_builderOf_1 : decode cX4_builderOf 1 = .ok (.ifCond .lt 21, 3) := by decide +kernel
theorem dX4_builderOf_4 : decode cX4_builderOf 4 = .ok (.iload_n 1, 1) := by decide +kernel
theorem dX4_builderOf_5 : decode cX4_builderOf 5 = .ok (.aload_n 0, 1) := by decide +kernel
theorem dX4_builderOf_6 : decode cX4_builderOf 6 = .ok (.getfield 11, 3) := by decide +kernel
theorem dX4_builderOf_9 : decode cX4_builderOf 9 = .ok (.arraylength, 1) := by decide +kernel
theorem dX4_builderOf_10 : decode cX4_builderOf 10 = .ok (.if_icmp .ge 12, 3) := by decide +kernel
theorem dX4_builderOf_13 : decode cX4_builderOf 13 = .ok (.aload_n 0, 1) := by decide +kernel
theorem dX4_builderOf_14 : decode cX4_builderOf 14 = .ok (.getfield 11, 3) := by decide +kernel
theorem dX4_builderOf_17 : decode cX4_builderOf 17 = .ok (.iload_n 1, 1) := by decide +kernel
theorem dX4_builderOf_18 : decode cX4_builderOf 18 = .ok (.aaload, 1) := by decide +kernel
theorem dX4_builderOf_19 : decode cX4_builderOf 19 = .ok (.goto 4, 3) := by decide +kernel
theorem dX4_builderOf_22 : decode cX4_builderOf 22 = .ok (.aconst_null, 1) := by decide +kernel
theorem dX4_builderOf_23 : decode cX4_builderOf 23 = .ok (.areturn, 1) := by decide +kernel
theorem dX4_textOf_0 : decode cX4_textOf 0 = .ok (.iload_n 1, 1) := by decide +kernel
theorem dX4_textOf_1 : decode cX4_textOf 1 = .ok (.ifCond .lt 21, 3) := by decide +kernel
theorem dX4_textOf_4 : decode cX4_textOf 4 = .ok (.iload_n 1, 1) := by decide +kernel
theorem dX4_textOf_5 : decode cX4_textOf 5 = .ok (.aload_n 0, 1) := by decide +kernel
theorem dX4_textOf_6 : decode cX4_textOf 6 = .ok (.getfield 17, 3) := by decide +kernel
theorem dX4_textOf_9 : decode cX4_textOf 9 = .ok (.arraylength, 1) := by decide +kernel
theorem dX4_textOf_10 : decode cX4_textOf 10 = .ok (.if_icmp .ge 12, 3) := by decide +kernel
theorem dX4_textOf_13 : decode cX4_textOf 13 = .ok (.aload_n 0, 1) := by decide +kernel
theorem dX4_textOf_14 : decode cX4_textOf 14 = .ok (.getfield 17, 3) := by decide +kernel
theorem dX4_textOf_17 : decode cX4_textOf 17 = .ok (.iload_n 1, 1) := by decide +kernel
theorem dX4_textOf_18 : decode cX4_textOf 18 = .ok (.aaload, 1) := by decide +kernel
theorem dX4_textOf_19 : decode cX4_textOf 19 = .ok (.goto 4, 3) := by decide +kernel
theorem dX4_textOf_22 : decode cX4_textOf 22 = .ok (.aconst_null, 1) := by decide +kernel
theorem dX4_textOf_23 : decode cX4_textOf 23 = .ok (.areturn, 1) := by decide +kernel
theorem dX4_cutterOf_0 : decode cX4_cutterOf 0 = .ok (.iload_n 1, 1) := by decide +kernel
theorem dX4_cutterOf_1 : decode cX4_cutterOf 1 = .ok (.ifCond .lt 21, 3) := by decide +kernel
theorem dX4_cutterOf_4 : decode cX4_cutterOf 4 = .ok (.iload_n 1, 1) := by decide +kernel
theorem dX4_cutterOf_5 : decode cX4_cutterOf 5 = .ok (.aload_n 0, 1) := by decide +kernel
theorem dX4_cutterOf_6 : decode cX4_cutterOf 6 = .ok (.getfield 23, 3) := by decide +kernel
theorem dX4_cutterOf_9 : decode cX4_cutterOf 9 = .ok (.arraylength, 1) := by decide +kernel
theorem dX4_cutterOf_10 : decode cX4_cutterOf 10 = .ok (.if_icmp .ge 12, 3) := by decide +kernel
theorem dX4_cutterOf_13 : decode cX4_cutterOf 13 = .ok (.aload_n 0, 1) := by decide +kernel
theorem dX4_cutterOf_14 : decode cX4_cutterOf 14 = .ok (.getfield 23, 3) := by decide +kernel
theorem dX4_cutterOf_17 : decode cX4_cutterOf 17 = .ok (.iload_n 1, 1) := by decide +kernel
theorem dX4_cutterOf_18 : decode cX4_cutterOf 18 = .ok (.aaload, 1) := by decide +kernel
theorem dX4_cutterOf_19 : decode cX4_cutterOf 19 = .ok (.goto 4, 3) := by decide +kernel
theorem dX4_cutterOf_22 : decode cX4_cutterOf 22 = .ok (.aconst_null, 1) := by decide +kernel
theorem dX4_cutterOf_23 : decode cX4_cutterOf 23 = .ok (.areturn, 1) := by decide +kernel
theorem dX4_textOrFour_0 : decode cX4_textOrFour 0 = .ok (.aload_n 0, 1) := by decide +kernel
theorem dX4_textOrFour_1 : decode cX4_textOrFour 1 = .ok (.iload_n 1, 1) := by decide +kernel
theorem dX4_textOrFour_2 : decode cX4_textOrFour 2 = .ok (.invokevirtual 97, 3) := by decide +kernel
theorem dX4_textOrFour_5 : decode cX4_textOrFour 5 = .ok (.astore_n 2, 1) := by decide +kernel
theorem dX4_textOrFour_6 : decode cX4_textOrFour 6 = .ok (.aload_n 2, 1) := by decide +kernel
theorem dX4_textOrFour_7 : decode cX4_textOrFour 7 = .ok (.ifnonnull 5, 3) := by decide +kernel
theorem dX4_textOrFour_10 : decode cX4_textOrFour 10 = .ok (.aconst_null, 1) := by decide +kernel
theorem dX4_textOrFour_11 : decode cX4_textOrFour 11 = .ok (.areturn, 1) := by decide +kernel
theorem dX4_textOrFour_12 : decode cX4_textOrFour 12 = .ok (.aload_n 2, 1) := by decide +kernel
theorem dX4_textOrFour_13 : decode cX4_textOrFour 13 = .ok (.getfield 101, 3) := by decide +kernel
theorem dX4_textOrFour_16 : decode cX4_textOrFour 16 = .ok (.ifCond .eq 10, 3) := by decide +kernel
theorem dX4_textOrFour_19 : decode cX4_textOrFour 19 = .ok (.aload_n 0, 1) := by decide +kernel
theorem dX4_textOrFour_20 : decode cX4_textOrFour 20 = .ok (.getfield 35, 3) := by decide +kernel
theorem dX4_textOrFour_23 : decode cX4_textOrFour 23 = .ok (.goto 7, 3) := by decide +kernel
theorem dX4_textOrFour_26 : decode cX4_textOrFour 26 = .ok (.aload_n 2, 1) := by decide +kernel
theorem dX4_textOrFour_27 : decode cX4_textOrFour 27 = .ok (.getfield 105, 3) := by decide +kernel
theorem dX4_textOrFour_30 : decode cX4_textOrFour 30 = .ok (.areturn, 1) := by decide +kernel
theorem dX4_nothing_0 : decode cX4_nothing 0 = .ok (.aload_n 0, 1) := by decide +kernel
theorem dX4_nothing_1 : decode cX4_nothing 1 = .ok (.getfield 39, 3) := by decide +kernel
theorem dX4_nothing_4 : decode cX4_nothing 4 = .ok (.invokevirtual 235, 3) := by decide +kernel
theorem dX4_nothing_7 : decode cX4_nothing 7 = .ok (.aload_n 0, 1) := by decide +kernel
theorem dX4_nothing_8 : decode cX4_nothing 8 = .ok (.getfield 39, 3) := by decide +kernel
theorem dX4_nothing_11 : decode cX4_nothing 11 = .ok (.areturn, 1) := by decide +kernel
theorem dX4_single_0 : decode cX4_single 0 = .ok (.aload_n 0, 1) := by decide +kernel
theorem dX4_single_1 : decode cX4_single 1 = .ok (.getfield 39, 3) := by decide +kernel
theorem dX4_single_4 : decode cX4_single 4 = .ok (.invokevirtual 235, 3) := by decide +kernel
theorem dX4_single_7 : decode cX4_single 7 = .ok (.aload_n 0, 1) := by decide +kernel
theorem dX4_single_8 : decode cX4_single 8 = .ok (.getfield 39, 3) := by decide +kernel
theorem dX4_single_11 : decode cX4_single 11 = .ok (.iload_n 1, 1) := by decide +kernel
theorem dX4_single_12 : decode cX4_single 12 = .ok (.invokevirtual 48, 3) := by decide +kernel
theorem dX4_single_15 : decode cX4_single 15 = .ok (.aload_n 0, 1) := by decide +kernel
theorem dX4_single_16 : decode cX4_single 16 = .ok (.getfield 39, 3) := by decide +kernel
theorem dX4_single_19 : decode cX4_single 19 = .ok (.areturn, 1) := by decide +kernel
theorem dX4_lowBytes_0 : decode cX4_lowBytes 0 = .ok (.aload_n 0, 1) := by decide +kernel
theorem dX4_lowBytes_1 : decode cX4_lowBytes 1 = .ok (.getfield 39, 3) := by decide +kernel
theorem dX4_lowBytes_4 : decode cX4_lowBytes 4 = .ok (.invokevirtual 235, 3) := by decide +kernel
theorem dX4_lowBytes_7 : decode cX4_lowBytes 7 = .ok (.iload_n 1, 1) := by decide +kernel
theorem dX4_lowBytes_8 : decode cX4_lowBytes 8 = .ok (.iconst 1, 1) := by decide +kernel
theorem dX4_lowBytes_9 : decode cX4_lowBytes 9 = .ok (.isub, 1) := by decide +kernel
theorem dX4_lowBytes_10 : decode cX4_lowBytes 10 = .ok (.istore 4, 2) := by decide +kernel
theorem dX4_lowBytes_12 : decode cX4_lowBytes 12 = .ok (.iload 4, 2) := by decide +kernel
theorem dX4_lowBytes_14 : decode cX4_lowBytes 14 = .ok (.ifCond .lt 28, 3) := by decide +kernel
theorem dX4_lowBytes_17 : decode cX4_lowBytes 17 = .ok (.aload_n 0, 1) := by decide +kernel
theorem dX4_lowBytes_18 : decode cX4_lowBytes 18 = .ok (.getfield 39, 3) := by decide +kernel
theorem dX4_lowBytes_21 : decode cX4_lowBytes 21 = .ok (.lload_n 2, 1) := by decide +kernel
theorem dX4_lowBytes_22 : decode cX4_lowBytes 22 = .ok (.bipush 8, 2) := by decide +kernel
theorem dX4_lowBytes_24 : decode cX4_lowBytes 24 = .ok (.iload 4, 2) := by decide +kernel
theorem dX4_lowBytes_26 : decode cX4_lowBytes 26 = .ok (.imul, 1) := by decide +kernel
theorem dX4_lowBytes_27 : decode cX4_lowBytes 27 = .ok (.lushr, 1) := by decide +kernel
theorem dX4_lowBytes_28 : decode cX4_lowBytes 28 = .ok (.l2i, 1) := by decide +kernel
theorem dX4_lowBytes_29 : decode cX4_lowBytes 29 = .ok (.sipush 255, 3) := by decide +kernel
theorem dX4_lowBytes_32 : decode cX4_lowBytes 32 = .ok (.iand, 1) := by decide +kernel
theorem dX4_lowBytes_33 : decode cX4_lowBytes 33 = .ok (.invokevirtual 48, 3) := by decide +kernel
theorem dX4_lowBytes_36 : decode cX4_lowBytes 36 = .ok (.iinc 4 (-1), 3) := by decide +kernel
theorem dX4_lowBytes_39 : decode cX4_lowBytes 39 = .ok (.goto (-27), 3) := by decide +kernel
theorem dX4_lowBytes_42 : decode cX4_lowBytes 42 = .ok (.aload_n 0, 1) := by decide +kernel
theorem dX4_lowBytes_43 : decode cX4_lowBytes 43 = .ok (.getfield 39, 3) := by decide +kernel
theorem dX4_lowBytes_46 : decode cX4_lowBytes 46 = .ok (.areturn, 1) := by decide +kernel
theorem dX4_figures_0 : decode cX4_figures 0 = .ok (.aload_n 0, 1) := by decide +kernel
theorem dX4_figures_1 : decode cX4_figures 1 = .ok (.getfield 39, 3) := by decide +kernel
theorem dX4_figures_4 : decode cX4_figures 4 = .ok (.invokevirtual 235, 3) := by decide +kernel
theorem dX4_figures_7 : decode cX4_figures 7 = .ok (.lload_n 1, 1) := by decide +kernel
theorem dX4_figures_8 : decode cX4_figures 8 = .ok (.lstore_n 3, 1) := by decide +kernel
theorem dX4_figures_9 : decode cX4_figures 9 = .ok (.iconst 0, 1) := by decide +kernel
theorem dX4_figures_10 : decode cX4_figures 10 = .ok (.istore 5, 2) := by decide +kernel
theorem dX4_figures_12 : decode cX4_figures 12 = .ok (.iload 5, 2) := by decide +kernel
theorem dX4_figures_14 : decode cX4_figures 14 = .ok (.bipush 19, 2) := by decide +kernel
theorem dX4_figures_16 : decode cX4_figures 16 = .ok (.if_icmp .ge 45, 3) := by decide +kernel
theorem dX4_figures_19 : decode cX4_figures 19 = .ok (.iload 5, 2) := by decide +kernel
theorem dX4_figures_21 : decode cX4_figures 21 = .ok (.ifCond .eq 9, 3) := by decide +kernel
theorem dX4_figures_24 : decode cX4_figures 24 = .ok (.lload_n 3, 1) := by decide +kernel
theorem dX4_figures_25 : decode cX4_figures 25 = .ok (.lconst 0, 1) := by decide +kernel
theorem dX4_figures_26 : decode cX4_figures 26 = .ok (.lcmp, 1) := by decide +kernel
theorem dX4_figures_27 : decode cX4_figures 27 = .ok (.ifCond .eq 34, 3) := by decide +kernel
theorem dX4_figures_30 : decode cX4_figures 30 = .ok (.aload_n 0, 1) := by decide +kernel
theorem dX4_figures_31 : decode cX4_figures 31 = .ok (.getfield 39, 3) := by decide +kernel
theorem dX4_figures_34 : decode cX4_figures 34 = .ok (.bipush 48, 2) := by decide +kernel
theorem dX4_figures_36 : decode cX4_figures 36 = .ok (.lload_n 3, 1) := by decide +kernel
theorem dX4_figures_37 : decode cX4_figures 37 = .ok (.ldc2_w 238, 3) := by decide +kernel
theorem dX4_figures_40 : decode cX4_figures 40 = .ok (.lrem, 1) := by decide +kernel
theorem dX4_figures_41 : decode cX4_figures 41 = .ok (.l2i, 1) := by decide +kernel
theorem dX4_figures_42 : decode cX4_figures 42 = .ok (.invokestatic 240, 3) := by decide +kernel
theorem dX4_figures_45 : decode cX4_figures 45 = .ok (.iadd, 1) := by decide +kernel
theorem dX4_figures_46 : decode cX4_figures 46 = .ok (.invokevirtual 48, 3) := by decide +kernel
theorem dX4_figures_49 : decode cX4_figures 49 = .ok (.lload_n 3, 1) := by decide +kernel
theorem dX4_figures_50 : decode cX4_figures 50 = .ok (.ldc2_w 238, 3) := by decide +kernel
theorem dX4_figures_53 : decode cX4_figures 53 = .ok (.ldiv, 1) := by decide +kernel
theorem dX4_figures_54 : decode cX4_figures 54 = .ok (.lstore_n 3, 1) := by decide +kernel
theorem dX4_figures_55 : decode cX4_figures 55 = .ok (.iinc 5 1, 3) := by decide +kernel
theorem dX4_figures_58 : decode cX4_figures 58 = .ok (.goto (-46), 3) := by decide +kernel
theorem dX4_figures_61 : decode cX4_figures 61 = .ok (.lload_n 1, 1) := by decide +kernel
theorem dX4_figures_62 : decode cX4_figures 62 = .ok (.lconst 0, 1) := by decide +kernel
theorem dX4_figures_63 : decode cX4_figures 63 = .ok (.lcmp, 1) := by decide +kernel
theorem dX4_figures_64 : decode cX4_figures 64 = .ok (.ifCond .ge 12, 3) := by decide +kernel
theorem dX4_figures_67 : decode cX4_figures 67 = .ok (.aload_n 0, 1) := by decide +kernel
theorem dX4_figures_68 : decode cX4_figures 68 = .ok (.getfield 39, 3) := by decide +kernel
theorem dX4_figures_71 : decode cX4_figures 71 = .ok (.bipush 45, 2) := by decide +kernel
theorem dX4_figures_73 : decode cX4_figures 73 = .ok (.invokevirtual 48, 3) := by decide +kernel
theorem dX4_figures_76 : decode cX4_figures 76 = .ok (.aload_n 0, 1) := by decide +kernel
theorem dX4_figures_77 : decode cX4_figures 77 = .ok (.getfield 39, 3) := by decide +kernel
theorem dX4_figures_80 : decode cX4_figures 80 = .ok (.invokevirtual 108, 3) := by decide +kernel
theorem dX4_figures_83 : decode cX4_figures 83 = .ok (.aload_n 0, 1) := by decide +kernel
theorem dX4_figures_84 : decode cX4_figures 84 = .ok (.getfield 39, 3) := by decide +kernel
theorem dX4_figures_87 : decode cX4_figures 87 = .ok (.areturn, 1) := by decide +kernel
theorem dJ6_compare_7cf53_0 : decode cJ6_compare_7cf53 0 = .ok (.iload_n 0, 1) := by decide +kernel
theorem dJ6_compare_7cf53_1 : decode cJ6_compare_7cf53 1 = .ok (.iload_n 1, 1) := by decide +kernel
theorem dJ6_compare_7cf53_2 : decode cJ6_compare_7cf53 2 = .ok (.if_icmp .ge 7, 3) := by decide +kernel
theorem dJ6_compare_7cf53_5 : decode cJ6_compare_7cf53 5 = .ok (.iconst (-1), 1) := by decide +kernel
theorem dJ6_compare_7cf53_6 : decode cJ6_compare_7cf53 6 = .ok (.goto 13, 3) := by decide +kernel
theorem dJ6_compare_7cf53_9 : decode cJ6_compare_7cf53 9 = .ok (.iload_n 0, 1) := by decide +kernel
theorem dJ6_compare_7cf53_10 : decode cJ6_compare_7cf53 10 = .ok (.iload_n 1, 1) := by decide +kernel
theorem dJ6_compare_7cf53_11 : decode cJ6_compare_7cf53 11 = .ok (.if_icmp .ne 7, 3) := by decide +kernel
theorem dJ6_compare_7cf53_14 : decode cJ6_compare_7cf53 14 = .ok (.iconst 0, 1) := by decide +kernel
theorem dJ6_compare_7cf53_15 : decode cJ6_compare_7cf53 15 = .ok (.goto 4, 3) := by decide +kernel
theorem dJ6_compare_7cf53_18 : decode cJ6_compare_7cf53 18 = .ok (.iconst 1, 1) := by decide +kernel
theorem dJ6_compare_7cf53_19 : decode cJ6_compare_7cf53 19 = .ok (.ireturn, 1) := by decide +kernel
theorem dJ9_abs_0f7a4_0 : decode cJ9_abs_0f7a4 0 = .ok (.iload_n 0, 1) := by decide +kernel
theorem dJ9_abs_0f7a4_1 : decode cJ9_abs_0f7a4 1 = .ok (.ifCond .ge 8, 3) := by decide +kernel
theorem dJ9_abs_0f7a4_4 : decode cJ9_abs_0f7a4 4 = .ok (.iload_n 0, 1) := by decide +kernel
theorem dJ9_abs_0f7a4_5 : decode cJ9_abs_0f7a4 5 = .ok (.ineg, 1) := by decide +kernel
theorem dJ9_abs_0f7a4_6 : decode cJ9_abs_0f7a4 6 = .ok (.goto 4, 3) := by decide +kernel
theorem dJ9_abs_0f7a4_9 : decode cJ9_abs_0f7a4 9 = .ok (.iload_n 0, 1) := by decide +kernel
theorem dJ9_abs_0f7a4_10 : decode cJ9_abs_0f7a4 10 = .ok (.ireturn, 1) := by decide +kernel
theorem dJ9_max_7cf53_0 : decode cJ9_max_7cf53 0 = .ok (.iload_n 0, 1) := by decide +kernel
theorem dJ9_max_7cf53_1 : decode cJ9_max_7cf53 1 = .ok (.iload_n 1, 1) := by decide +kernel
theorem dJ9_max_7cf53_2 : decode cJ9_max_7cf53 2 = .ok (.if_icmp .lt 7, 3) := by decide +kernel
theorem dJ9_max_7cf53_5 : decode cJ9_max_7cf53 5 = .ok (.iload_n 0, 1) := by decide +kernel
theorem dJ9_max_7cf53_6 : decode cJ9_max_7cf53 6 = .ok (.goto 4, 3) := by decide +kernel
theorem dJ9_max_7cf53_9 : decode cJ9_max_7cf53 9 = .ok (.iload_n 1, 1) := by decide +kernel
theorem dJ9_max_7cf53_10 : decode cJ9_max_7cf53 10 = .ok (.ireturn, 1) := by decide +kernel
theorem dJ9_min_7cf53_0 : decode cJ9_min_7cf53 0 = .ok (.iload_n 0, 1) := by decide +kernel
theorem dJ9_min_7cf53_1 : decode cJ9_min_7cf53 1 = .ok (.iload_n 1, 1) := by decide +kernel
theorem dJ9_min_7cf53_2 : decode cJ9_min_7cf53 2 = .ok (.if_icmp .gt 7, 3) := by decide +kernel
theorem dJ9_min_7cf53_5 : decode cJ9_min_7cf53 5 = .ok (.iload_n 0, 1) := by decide +kernel
theorem dJ9_min_7cf53_6 : decode cJ9_min_7cf53 6 = .ok (.goto 4, 3) := by decide +kernel
theorem dJ9_min_7cf53_9 : decode cJ9_min_7cf53 9 = .ok (.iload_n 1, 1) := by decide +kernel
theorem dJ9_min_7cf53_10 : decode cJ9_min_7cf53 10 = .ok (.ireturn, 1) := by decide +kernel
end
section
theorem dX5_init_0 : decode cX5_init 0 = .ok (.aload_n 0, 1) := by decide +kernel
theorem dX5_init_1 : decode cX5_init 1 = .ok (.invokespecial 1, 3) := by decide +kernel
theorem dX5_init_4 : decode cX5_init 4 = .ok (.aload_n 0, 1) := by decide +kernel
theorem dX5_init_5 : decode cX5_init 5 = .ok (.sipush 800, 3) := by decide +kernel
theorem dX5_init_8 : decode cX5_init 8 = .ok (.newarray .int, 2) := by decide +kernel
theorem dX5_init_10 : decode cX5_init 10 = .ok (.putfield 7, 3) := by decide +kernel
theorem dX5_init_13 : decode cX5_init 13 = .ok (.aload_n 0, 1) := by decide +kernel
theorem dX5_init_14 : decode cX5_init 14 = .ok (.iconst 4, 1) := by decide +kernel
theorem dX5_init_15 : decode cX5_init 15 = .ok (.newarray .int, 2) := by decide +kernel
theorem dX5_init_17 : decode cX5_init 17 = .ok (.putfield 13, 3) := by decide +kernel
theorem dX5_init_20 : decode cX5_init 20 = .ok (.aload_n 0, 1) := by decide +kernel
theorem dX5_init_21 : decode cX5_init 21 = .ok (.sipush 1600, 3) := by decide +kernel
theorem dX5_init_24 : decode cX5_init 24 = .ok (.newarray .int, 2) := by decide +kernel
theorem dX5_init_26 : decode cX5_init 26 = .ok (.putfield 16, 3) := by decide +kernel
theorem dX5_init_29 : decode cX5_init 29 = .ok (.aload_n 0, 1) := by decide +kernel
theorem dX5_init_30 : decode cX5_init 30 = .ok (.bipush 8, 2) := by decide +kernel
theorem dX5_init_32 : decode cX5_init 32 = .ok (.newarray .int, 2) := by decide +kernel
theorem dX5_init_34 : decode cX5_init 34 = .ok (.putfield 19, 3) := by decide +kernel
theorem dX5_init_37 : decode cX5_init 37 = .ok (.aload_n 0, 1) := by decide +kernel
theorem dX5_init_38 : decode cX5_init 38 = .ok (.sipush 220, 3) := by decide +kernel
theorem dX5_init_41 : decode cX5_init 41 = .ok (.newarray .int, 2) := by decide +kernel
theorem dX5_init_43 : decode cX5_init 43 = .ok (.putfield 22, 3) := by decide +kernel
theorem dX5_init_46 : decode cX5_init 46 = .ok (.aload_n 0, 1) := by decide +kernel
theorem dX5_init_47 : decode cX5_init 47 = .ok (.bipush 24, 2) := by decide +kernel
theorem dX5_init_49 : decode cX5_init 49 = .ok (.newarray .int, 2) := by decide +kernel
theorem dX5_init_51 : decode cX5_init 51 = .ok (.putfield 25, 3) := by decide +kernel
theorem dX5_init_54 : decode cX5_init 54 = .ok (.aload_n 0, 1) := by decide +kernel
theorem dX5_init_55 : decode cX5_init 55 = .ok (.sipush 200, 3) := by decide +kernel
theorem dX5_init_58 : decode cX5_init 58 = .ok (.newarray .int, 2) := by decide +kernel
theorem dX5_init_60 : decode cX5_init 60 = .ok (.putfield 28, 3) := by decide +kernel
theorem dX5_init_63 : decode cX5_init 63 = .ok (.aload_n 0, 1) := by decide +kernel
theorem dX5_init_64 : decode cX5_init 64 = .ok (.sipush 202, 3) := by decide +kernel
theorem dX5_init_67 : decode cX5_init 67 = .ok (.newarray .int, 2) := by decide +kernel
theorem dX5_init_69 : decode cX5_init 69 = .ok (.putfield 31, 3) := by decide +kernel
theorem dX5_init_72 : decode cX5_init 72 = .ok (.aload_n 0, 1) := by decide +kernel
theorem dX5_init_73 : decode cX5_init 73 = .ok (.sipush 202, 3) := by decide +kernel
theorem dX5_init_76 : decode cX5_init 76 = .ok (.newarray .int, 2) := by decide +kernel
theorem dX5_init_78 : decode cX5_init 78 = .ok (.putfield 34, 3) := by decide +kernel
theorem dX5_init_81 : decode cX5_init 81 = .ok (.aload_n 0, 1) := by decide +kernel
theorem dX5_init_82 : decode cX5_init 82 = .ok (.sipush 400, 3) := by decide +kernel
theorem dX5_init_85 : decode cX5_init 85 = .ok (.newarray .int, 2) := by decide +kernel
theorem dX5_init_87 : decode cX5_init 87 = .ok (.putfield 37, 3) := by decide +kernel
theorem dX5_init_90 : decode cX5_init 90 = .ok (.aload_n 0, 1) := by decide +kernel
theorem dX5_init_91 : decode cX5_init 91 = .ok (.iconst 2, 1) := by decide +kernel
theorem dX5_init_92 : decode cX5_init 92 = .ok (.newarray .int, 2) := by decide +kernel
theorem dX5_init_94 : decode cX5_init 94 = .ok (.putfield 40, 3) := by decide +kernel
theorem dX5_init_97 : decode cX5_init 97 = .ok (.aload_n 0, 1) := by decide +kernel
theorem dX5_init_98 : decode cX5_init 98 = .ok (.sipush 512, 3) := by decide +kernel
theorem dX5_init_101 : decode cX5_init 101 = .ok (.newarray .int, 2) := by decide +kernel
theorem dX5_init_103 : decode cX5_init 103 = .ok (.putfield 43, 3) := by decide +kernel
theorem dX5_init_106 : decode cX5_init 106 = .ok (.aload_n 0, 1) := by decide +kernel
theorem dX5_init_107 : decode cX5_init 107 = .ok (.iconst 2, 1) := by decide +kernel
theorem dX5_init_108 : decode cX5_init 108 = .ok (.newarray .int, 2) := by decide +kernel
theorem dX5_init_110 : decode cX5_init 110 = .ok (.putfield 46, 3) := by decide +kernel
theorem dX5_init_113 : decode cX5_init 113 = .ok (.aload_n 0, 1) := by decide +kernel
theorem dX5_init_114 : decode cX5_init 114 = .ok (.iconst 2, 1) := by decide +kernel
theorem dX5_init_115 : decode cX5_init 115 = .ok (.newarray .int, 2) := by decide +kernel
theorem dX5_init_117 : decode cX5_init 117 = .ok (.putfield 49, 3) := by decide +kernel
theorem dX5_init_120 : decode cX5_init 120 = .ok (.iconst 0, 1) := by decide +kernel
theorem dX5_init_121 : decode cX5_init 121 = .ok (.istore_n 1, 1) := by decide +kernel
theorem dX5_init_122 : decode cX5_init 122 = .ok (.iload_n 1, 1) := by decide +kernel
theorem dX5_init_123 : decode cX5_init 123 = .ok (.bipush 8, 2) := by decide +kernel
theorem dX5_init_125 : decode cX5_init 125 = .ok (.if_icmp .ge 16, 3) := by decide +kernel
theorem dX5_init_128 : decode cX5_init 128 = .ok (.aload_n 0, 1) := by decide +kernel
theorem dX5_init_129 : decode cX5_init 129 = .ok (.getfield 19, 3) := by decide +kernel
theorem dX5_init_132 : decode cX5_init 132 = .ok (.iload_n 1, 1) := by decide +kernel
theorem dX5_init_133 : decode cX5_init 133 = .ok (.iconst (-1), 1) := by decide +kernel
theorem dX5_init_134 : decode cX5_init 134 = .ok (.iastore, 1) := by decide +kernel
theorem dX5_init_135 : decode cX5_init 135 = .ok (.iinc 1 1, 3) := by decide +kernel
theorem dX5_init_138 : decode cX5_init 138 = .ok (.goto (-16), 3) := by decide +kernel
theorem dX5_init_141 : decode cX5_init 141 = .ok (.aload_n 0, 1) := by decide +kernel
theorem dX5_init_142 : decode cX5_init 142 = .ok (.getfield 40, 3) := by decide +kernel
theorem dX5_init_145 : decode cX5_init 145 = .ok (.iconst 0, 1) := by decide +kernel
theorem dX5_init_146 : decode cX5_init 146 = .ok (.iconst (-1), 1) := by decide +kernel
theorem dX5_init_147 : decode cX5_init 147 = .ok (.iastore, 1) := by decide +kernel
theorem dX5_init_148 : decode cX5_init 148 = .ok (.aload_n 0, 1) := by decide +kernel
theorem dX5_init_149 : decode cX5_init 149 = .ok (.getfield 40, 3) := by decide +kernel
theorem dX5_init_152 : decode cX5_init 152 = .ok (.iconst 1, 1) := by decide +kernel
theorem dX5_init_153 : decode cX5_init 153 = .ok (.iconst (-1), 1) := by decide +kernel
theorem dX5_init_154 : decode cX5_init 154 = .ok (.iastore, 1) := by decide +kernel
theorem dX5_init_155 : decode cX5_init 155 = .ok (.return_, 1) := by decide +kernel
theorem dX5_in_0 : decode cX5_in 0 = .ok (.lload_n 0, 1) := by decide +kernel
theorem dX5_in_1 : decode cX5_in 1 = .ok (.lload_n 2, 1) := by decide +kernel
theorem dX5_in_2 : decode cX5_in 2 = .ok (.lcmp, 1) := by decide +kernel
theorem dX5_in_3 : decode cX5_in 3 = .ok (.ifCond .lt 14, 3) := by decide +kernel
theorem dX5_in_6 : decode cX5_in 6 = .ok (.lload_n 0, 1) := by decide +kernel
theorem dX5_in_7 : decode cX5_in 7 = .ok (.lload 4, 2) := by decide +kernel
theorem dX5_in_9 : decode cX5_in 9 = .ok (.lcmp, 1) := by decide +kernel
theorem dX5_in_10 : decode cX5_in 10 = .ok (.ifCond .gt 7, 3) := by decide +kernel
theorem dX5_in_13 : decode cX5_in 13 = .ok (.iconst 1, 1) := by decide +kernel
theorem dX5_in_14 : decode cX5_in 14 = .ok (.goto 4, 3) := by decide +kernel
theorem dX5_in_17 : decode cX5_in 17 = .ok (.iconst 0, 1) := by decide +kernel
theorem dX5_in_18 : decode cX5_in 18 = .ok (.ireturn, 1) := by decide +kernel
theorem dX5_isBuilder_0 : decode cX5_isBuilder 0 = .ok (.iload_n 0, 1) := by decide +kernel
theorem dX5_isBuilder_1 : decode cX5_isBuilder 1 = .ok (.i2l, 1) := by decide +kernel
theorem dX5_isBuilder_2 : decode cX5_isBuilder 2 = .ok (.lconst 0, 1) := by decide +kernel
theorem dX5_isBuilder_3 : decode cX5_isBuilder 3 = .ok (.ldc2_w 52, 3) := by decide +kernel
theorem dX5_isBuilder_6 : decode cX5_isBuilder 6 = .ok (.invokestatic 54, 3) := by decide +kernel
theorem dX5_isBuilder_9 : decode cX5_isBuilder 9 = .ok (.ireturn, 1) := by decide +kernel
theorem dX5_isText_0 : decode cX5_isText 0 = .ok (.iload_n 0, 1) := by decide +kernel
theorem dX5_isText_1 : decode cX5_isText 1 = .ok (.i2l, 1) := by decide +kernel
theorem dX5_isText_2 : decode cX5_isText 2 = .ok (.lconst 0, 1) := by decide +kernel
theorem dX5_isText_3 : decode cX5_isText 3 = .ok (.ldc2_w 58, 3) := by decide +kernel
theorem dX5_isText_6 : decode cX5_isText 6 = .ok (.invokestatic 54, 3) := by decide +kernel
theorem dX5_isText_9 : decode cX5_isText 9 = .ok (.ireturn, 1) := by decide +kernel
theorem dX5_isSign_0 : decode cX5_isSign 0 = .ok (.iload_n 0, 1) := by decide +kernel
theorem dX5_isSign_1 : decode cX5_isSign 1 = .ok (.i2l, 1) := by decide +kernel
theorem dX5_isSign_2 : decode cX5_isSign 2 = .ok (.lconst 0, 1) := by decide +kernel
theorem dX5_isSign_3 : decode cX5_isSign 3 = .ok (.ldc2_w 60, 3) := by decide +kernel
theorem dX5_isSign_6 : decode cX5_isSign 6 = .ok (.invokestatic 54, 3) := by decide +kernel
theorem dX5_isSign_9 : decode cX5_isSign 9 = .ok (.ireturn, 1) := by decide +kernel
theorem dX5_layText_0 : decode cX5_layText 0 = .ok (.aload_n 0, 1) := by decide +kernel
theorem dX5_layText_1 : decode cX5_layText 1 = .ok (.getfield 19, 3) := by decide +kernel
theorem dX5_layText_4 : decode cX5_layText 4 = .ok (.iload_n 1, 1) := by decide +kernel
theorem dX5_layText_5 : decode cX5_layText 5 = .ok (.iaload, 1) := by decide +kernel
theorem dX5_layText_6 : decode cX5_layText 6 = .ok (.ifCond .ge 41, 3) := by decide +kernel
theorem dX5_layText_9 : decode cX5_layText 9 = .ok (.aload_n 0, 1) := by decide +kernel
theorem dX5_layText_10 : decode cX5_layText 10 = .ok (.getfield 22, 3) := by decide +kernel
theorem dX5_layText_13 : decode cX5_layText 13 = .ok (.iconst 0, 1) := by decide +kernel
theorem dX5_layText_14 : decode cX5_layText 14 = .ok (.bipush 110, 2) := by decide +kernel
theorem dX5_layText_16 : decode cX5_layText 16 = .ok (.iastore, 1) := by decide +kernel
theorem dX5_layText_17 : decode cX5_layText 17 = .ok (.aload_n 0, 1) := by decide +kernel
theorem dX5_layText_18 : decode cX5_layText 18 = .ok (.getfield 22, 3) := by decide +kernel
theorem dX5_layText_21 : decode cX5_layText 21 = .ok (.iconst 1, 1) := by decide +kernel
theorem dX5_layText_22 : decode cX5_layText 22 = .ok (.bipush 117, 2) := by decide +kernel
theorem dX5_layText_24 : decode cX5_layText 24 = .ok (.iastore, 1) := by decide +kernel
theorem dX5_layText_25 : decode cX5_layText 25 = .ok (.aload_n 0, 1) := by decide +kernel
theorem dX5_layText_26 : decode cX5_layText 26 = .ok (.getfield 22, 3) := by decide +kernel
theorem dX5_layText_29 : decode cX5_layText 29 = .ok (.iconst 2, 1) := by decide +kernel
theorem dX5_layText_30 : decode cX5_layText 30 = .ok (.bipush 108, 2) := by decide +kernel
theorem dX5_layText_32 : decode cX5_layText 32 = .ok (.iastore, 1) := by decide +kernel
theorem dX5_layText_33 : decode cX5_layText 33 = .ok (.aload_n 0, 1) := by decide +kernel
theorem dX5_layText_34 : decode cX5_layText 34 = .ok (.getfield 22, 3) := by decide +kernel
theorem dX5_layText_37 : decode cX5_layText 37 = .ok (.iconst 3, 1) := by decide +kernel
theorem dX5_layText_38 : decode cX5_layText 38 = .ok (.bipush 108, 2) := by decide +kernel
theorem dX5_layText_40 : decode cX5_layText 40 = .ok (.iastore, 1) := by decide +kernel
theorem dX5_layText_41 : decode cX5_layText 41 = .ok (.aload_n 0, 1) := by decide +kernel
theorem dX5_layText_42 : decode cX5_layText 42 = .ok (.iconst 4, 1) := by decide +kernel
theorem dX5_layText_43 : decode cX5_layText 43 = .ok (.putfield 62, 3) := by decide +kernel
theorem dX5_layText_46 : decode cX5_layText 46 = .ok (.return_, 1) := by decide +kernel
theorem dX5_layText_47 : decode cX5_layText 47 = .ok (.aload_n 0, 1) := by decide +kernel
theorem dX5_layText_48 : decode cX5_layText 48 = .ok (.aload_n 0, 1) := by decide +kernel
theorem dX5_layText_49 : decode cX5_layText 49 = .ok (.getfield 19, 3) := by decide +kernel
theorem dX5_layText_52 : decode cX5_layText 52 = .ok (.iload_n 1, 1) := by decide +kernel
theorem dX5_layText_53 : decode cX5_layText 53 = .ok (.iaload, 1) := by decide +kernel
theorem dX5_layText_54 : decode cX5_layText 54 = .ok (.putfield 62, 3) := by decide +kernel
theorem dX5_layText_57 : decode cX5_layText 57 = .ok (.iconst 0, 1) := by decide +kernel
theorem dX5_layText_58 : decode cX5_layText 58 = .ok (.istore_n 2, 1) := by decide +kernel
theorem dX5_layText_59 : decode cX5_layText 59 = .ok (.iload_n 2, 1) := by decide +kernel
theorem dX5_layText_60 : decode cX5_layText 60 = .ok (.aload_n 0, 1) := by decide +kernel
theorem dX5_layText_61 : decode cX5_layText 61 = .ok (.getfield 62, 3) := by decide +kernel
theorem dX5_layText_64 : decode cX5_layText 64 = .ok (.if_icmp .ge 27, 3) := by decide +kernel
theorem dX5_layText_67 : decode cX5_layText 67 = .ok (.aload_n 0, 1) := by decide +kernel
theorem dX5_layText_68 : decode cX5_layText 68 = .ok (.getfield 22, 3) := by decide +kernel
theorem dX5_layText_71 : decode cX5_layText 71 = .ok (.iload_n 2, 1) := by decide +kernel
theorem dX5_layText_72 : decode cX5_layText 72 = .ok (.aload_n 0, 1) := by decide +kernel
theorem dX5_layText_73 : decode cX5_layText 73 = .ok (.getfield 16, 3) := by decide +kernel
theorem dX5_layText_76 : decode cX5_layText 76 = .ok (.sipush 200, 3) := by decide +kernel
theorem dX5_layText_79 : decode cX5_layText 79 = .ok (.iload_n 1, 1) := by decide +kernel
theorem dX5_layText_80 : decode cX5_layText 80 = .ok (.imul, 1) := by decide +kernel
theorem dX5_layText_81 : decode cX5_layText 81 = .ok (.iload_n 2, 1) := by decide +kernel
theorem dX5_layText_82 : decode cX5_layText 82 = .ok (.iadd, 1) := by decide +kernel
theorem dX5_layText_83 : decode cX5_layText 83 = .ok (.iaload, 1) := by decide +kernel
theorem dX5_layText_84 : decode cX5_layText 84 = .ok (.iastore, 1) := by decide +kernel
theorem dX5_layText_85 : decode cX5_layText 85 = .ok (.iinc 2 1, 3) := by decide +kernel
theorem dX5_layText_88 : decode cX5_layText 88 = .ok (.goto (-29), 3) := by decide +kernel
theorem dX5_layText_91 : decode cX5_layText 91 = .ok (.return_, 1) := by decide +kernel
theorem dX5_clip_0 : decode cX5_clip 0 = .ok (.iload_n 1, 1) := by decide +kernel
theorem dX5_clip_1 : decode cX5_clip 1 = .ok (.istore_n 3, 1) := by decide +kernel
theorem dX5_clip_2 : decode cX5_clip 2 = .ok (.iload_n 3, 1) := by decide +kernel
theorem dX5_clip_3 : decode cX5_clip 3 = .ok (.iload_n 2, 1) := by decide +kernel
theorem dX5_clip_4 : decode cX5_clip 4 = .ok (.if_icmp .ge 23, 3) := by decide +kernel
theorem dX5_clip_7 : decode cX5_clip 7 = .ok (.aload_n 0, 1) := by decide +kernel
theorem dX5_clip_8 : decode cX5_clip 8 = .ok (.getfield 22, 3) := by decide +kernel
theorem dX5_clip_11 : decode cX5_clip 11 = .ok (.iload_n 3, 1) := by decide +kernel
theorem dX5_clip_12 : decode cX5_clip 12 = .ok (.iload_n 1, 1) := by decide +kernel
theorem dX5_clip_13 : decode cX5_clip 13 = .ok (.isub, 1) := by decide +kernel
theorem dX5_clip_14 : decode cX5_clip 14 = .ok (.aload_n 0, 1) := by decide +kernel
theorem dX5_clip_15 : decode cX5_clip 15 = .ok (.getfield 22, 3) := by decide +kernel
theorem dX5_clip_18 : decode cX5_clip 18 = .ok (.iload_n 3, 1) := by decide +kernel
theorem dX5_clip_19 : decode cX5_clip 19 = .ok (.iaload, 1) := by decide +kernel
theorem dX5_clip_20 : decode cX5_clip 20 = .ok (.iastore, 1) := by decide +kernel
theorem dX5_clip_21 : decode cX5_clip 21 = .ok (.iinc 3 1, 3) := by decide +kernel
theorem dX5_clip_24 : decode cX5_clip 24 = .ok (.goto (-22), 3) := by decide +kernel
theorem dX5_clip_27 : decode cX5_clip 27 = .ok (.aload_n 0, 1) := by decide +kernel
theorem dX5_clip_28 : decode cX5_clip 28 = .ok (.iload_n 2, 1) := by decide +kernel
theorem dX5_clip_29 : decode cX5_clip 29 = .ok (.iload_n 1, 1) := by decide +kernel
theorem dX5_clip_30 : decode cX5_clip 30 = .ok (.isub, 1) := by decide +kernel
theorem dX5_clip_31 : decode cX5_clip 31 = .ok (.putfield 62, 3) := by decide +kernel
theorem dX5_clip_34 : decode cX5_clip 34 = .ok (.return_, 1) := by decide +kernel
theorem dX5_laySign_0 : decode cX5_laySign 0 = .ok (.aload_n 0, 1) := by decide +kernel
theorem dX5_laySign_1 : decode cX5_laySign 1 = .ok (.getfield 22, 3) := by decide +kernel
theorem dX5_laySign_4 : decode cX5_laySign 4 = .ok (.iconst 0, 1) := by decide +kernel
theorem dX5_laySign_5 : decode cX5_laySign 5 = .ok (.iload_n 1, 1) := by decide +kernel
theorem dX5_laySign_6 : decode cX5_laySign 6 = .ok (.iastore, 1) := by decide +kernel
theorem dX5_laySign_7 : decode cX5_laySign 7 = .ok (.aload_n 0, 1) := by decide +kernel
theorem dX5_laySign_8 : decode cX5_laySign 8 = .ok (.iconst 1, 1) := by decide +kernel
theorem dX5_laySign_9 : decode cX5_laySign 9 = .ok (.putfield 62, 3) := by decide +kernel
theorem dX5_laySign_12 : decode cX5_laySign 12 = .ok (.return_, 1) := by decide +kernel
theorem dX5_become_0 : decode cX5_become 0 = .ok (.aload_n 0, 1) := by decide +kernel
theorem dX5_become_1 : decode cX5_become 1 = .ok (.getfield 19, 3) := by decide +kernel
theorem dX5_become_4 : decode cX5_become 4 = .ok (.iload_n 1, 1) := by decide +kernel
theorem dX5_become_5 : decode cX5_become 5 = .ok (.aload_n 0, 1) := by decide +kernel
theorem dX5_become_6 : decode cX5_become 6 = .ok (.getfield 62, 3) := by decide +kernel
theorem dX5_become_9 : decode cX5_become 9 = .ok (.iastore, 1) := by decide +kernel
theorem dX5_become_10 : decode cX5_become 10 = .ok (.iconst 0, 1) := by decide +kernel
theorem dX5_become_11 : decode cX5_become 11 = .ok (.istore_n 2, 1) := by decide +kernel
theorem dX5_become_12 : decode cX5_become 12 = .ok (.iload_n 2, 1) := by decide +kernel
theorem dX5_become_13 : decode cX5_become 13 = .ok (.aload_n 0, 1) := by decide +kernel
theorem dX5_become_14 : decode cX5_become 14 = .ok (.getfield 62, 3) := by decide +kernel
theorem dX5_become_17 : decode cX5_become 17 = .ok (.if_icmp .ge 27, 3) := by decide +kernel
theorem dX5_become_20 : decode cX5_become 20 = .ok (.aload_n 0, 1) := by decide +kernel
theorem dX5_become_21 : decode cX5_become 21 = .ok (.getfield 16, 3) := by decide +kernel
theorem dX5_become_24 : decode cX5_become 24 = .ok (.sipush 200, 3) := by decide +kernel
theorem dX5_become_27 : decode cX5_become 27 = .ok (.iload_n 1, 1) := by decide +kernel
theorem dX5_become_28 : decode cX5_become 28 = .ok (.imul, 1) := by decide +kernel
theorem dX5_become_29 : decode cX5_become 29 = .ok (.iload_n 2, 1) := by decide +kernel
theorem dX5_become_30 : decode cX5_become 30 = .ok (.iadd, 1) := by decide +kernel
theorem dX5_become_31 : decode cX5_become 31 = .ok (.aload_n 0, 1) := by decide +kernel
theorem dX5_become_32 : decode cX5_become 32 = .ok (.getfield 22, 3) := by decide +kernel
theorem dX5_become_35 : decode cX5_become 35 = .ok (.iload_n 2, 1) := by decide +kernel
theorem dX5_become_36 : decode cX5_become 36 = .ok (.iaload, 1) := by decide +kernel
theorem dX5_become_37 : decode cX5_become 37 = .ok (.iastore, 1) := by decide +kernel
theorem dX5_become_38 : decode cX5_become 38 = .ok (.iinc 2 1, 3) := by decide +kernel
theorem dX5_become_41 : decode cX5_become 41 = .ok (.goto (-29), 3) := by decide +kernel
theorem dX5_become_44 : decode cX5_become 44 = .ok (.aload_n 0, 1) := by decide +kernel
theorem dX5_become_45 : decode cX5_become 45 = .ok (.getfield 62, 3) := by decide +kernel
theorem dX5_become_48 : decode cX5_become 48 = .ok (.ireturn, 1) := by decide +kernel
theorem dX5_edit_0 : decode cX5_edit 0 = .ok (.aload_n 0, 1) := by decide +kernel
theorem dX5_edit_1 : decode cX5_edit 1 = .ok (.getfield 13, 3) := by decide +kernel
theorem dX5_edit_4 : decode cX5_edit 4 = .ok (.iload_n 1, 1) := by decide +kernel
theorem dX5_edit_5 : decode cX5_edit 5 = .ok (.iaload, 1) := by decide +kernel
theorem dX5_edit_6 : decode cX5_edit 6 = .ok (.istore 4, 2) := by decide +kernel
theorem dX5_edit_8 : decode cX5_edit 8 = .ok (.aload_n 0, 1) := by decide +kernel
theorem dX5_edit_9 : decode cX5_edit 9 = .ok (.getfield 62, 3) := by decide +kernel
theorem dX5_edit_12 : decode cX5_edit 12 = .ok (.iload_n 3, 1) := by decide +kernel
theorem dX5_edit_13 : decode cX5_edit 13 = .ok (.iload_n 2, 1) := by decide +kernel
theorem dX5_edit_14 : decode cX5_edit 14 = .ok (.isub, 1) := by decide +kernel
theorem dX5_edit_15 : decode cX5_edit 15 = .ok (.isub, 1) := by decide +kernel
theorem dX5_edit_16 : decode cX5_edit 16 = .ok (.istore 5, 2) := by decide +kernel
theorem dX5_edit_18 : decode cX5_edit 18 = .ok (.iload 4, 2) := by decide +kernel
theorem dX5_edit_20 : decode cX5_edit 20 = .ok (.iload 5, 2) := by decide +kernel
theorem dX5_edit_22 : decode cX5_edit 22 = .ok (.iadd, 1) := by decide +kernel
theorem dX5_edit_23 : decode cX5_edit 23 = .ok (.sipush 200, 3) := by decide +kernel
theorem dX5_edit_26 : decode cX5_edit 26 = .ok (.if_icmp .le 7, 3) := by decide +kernel
theorem dX5_edit_29 : decode cX5_edit 29 = .ok (.sipush (-1007), 3) := by decide +kernel
theorem dX5_edit_32 : decode cX5_edit 32 = .ok (.ireturn, 1) := by decide +kernel
theorem dX5_edit_33 : decode cX5_edit 33 = .ok (.sipush 200, 3) := by decide +kernel
theorem dX5_edit_36 : decode cX5_edit 36 = .ok (.iload_n 1, 1) := by decide +kernel
theorem dX5_edit_37 : decode cX5_edit 37 = .ok (.imul, 1) := by decide +kernel
theorem dX5_edit_38 : decode cX5_edit 38 = .ok (.istore 6, 2) := by decide +kernel
theorem dX5_edit_40 : decode cX5_edit 40 = .ok (.iload 4, 2) := by decide +kernel
theorem dX5_edit_42 : decode cX5_edit 42 = .ok (.iconst 1, 1) := by decide +kernel
theorem dX5_edit_43 : decode cX5_edit 43 = .ok (.isub, 1) := by decide +kernel
theorem dX5_edit_44 : decode cX5_edit 44 = .ok (.istore 7, 2) := by decide +kernel
theorem dX5_edit_46 : decode cX5_edit 46 = .ok (.iload 7, 2) := by decide +kernel
theorem dX5_edit_48 : decode cX5_edit 48 = .ok (.iload_n 3, 1) := by decide +kernel
theorem dX5_edit_49 : decode cX5_edit 49 = .ok (.if_icmp .lt 37, 3) := by decide +kernel
theorem dX5_edit_52 : decode cX5_edit 52 = .ok (.iload 5, 2) := by decide +kernel
theorem dX5_edit_54 : decode cX5_edit 54 = .ok (.ifCond .le 32, 3) := by decide +kernel
theorem dX5_edit_57 : decode cX5_edit 57 = .ok (.aload_n 0, 1) := by decide +kernel
theorem dX5_edit_58 : decode cX5_edit 58 = .ok (.getfield 7, 3) := by decide +kernel
theorem dX5_edit_61 : decode cX5_edit 61 = .ok (.iload 6, 2) := by decide +kernel
theorem dX5_edit_63 : decode cX5_edit 63 = .ok (.iload 7, 2) := by decide +kernel
theorem dX5_edit_65 : decode cX5_edit 65 = .ok (.iadd, 1) := by decide +kernel
theorem dX5_edit_66 : decode cX5_edit 66 = .ok (.iload 5, 2) := by decide +kernel
theorem dX5_edit_68 : decode cX5_edit 68 = .ok (.iadd, 1) := by decide +kernel
theorem dX5_edit_69 : decode cX5_edit 69 = .ok (.aload_n 0, 1) := by decide +kernel
theorem dX5_edit_70 : decode cX5_edit 70 = .ok (.getfield 7, 3) := by decide +kernel
theorem dX5_edit_73 : decode cX5_edit 73 = .ok (.iload 6, 2) := by decide +kernel
theorem dX5_edit_75 : decode cX5_edit 75 = .ok (.iload 7, 2) := by decide +kernel
theorem dX5_edit_77 : decode cX5_edit 77 = .ok (.iadd, 1) := by decide +kernel
theorem dX5_edit_78 : decode cX5_edit 78 = .ok (.iaload, 1) := by decide +kernel
theorem dX5_edit_79 : decode cX5_edit 79 = .ok (.iastore, 1) := by decide +kernel
theorem dX5_edit_80 : decode cX5_edit 80 = .ok (.iinc 7 (-1), 3) := by decide +kernel
theorem dX5_edit_83 : decode cX5_edit 83 = .ok (.goto (-37), 3) := by decide +kernel
theorem dX5_edit_86 : decode cX5_edit 86 = .ok (.iload_n 3, 1) := by decide +kernel
theorem dX5_edit_87 : decode cX5_edit 87 = .ok (.istore 7, 2) := by decide +kernel
theorem dX5_edit_89 : decode cX5_edit 89 = .ok (.iload 7, 2) := by decide +kernel
theorem dX5_edit_91 : decode cX5_edit 91 = .ok (.iload 4, 2) := by decide +kernel
theorem dX5_edit_93 : decode cX5_edit 93 = .ok (.if_icmp .ge 37, 3) := by decide +kernel
theorem dX5_edit_96 : decode cX5_edit 96 = .ok (.iload 5, 2) := by decide +kernel
theorem dX5_edit_98 : decode cX5_edit 98 = .ok (.ifCond .ge 32, 3) := by decide +kernel
theorem dX5_edit_101 : decode cX5_edit 101 = .ok (.aload_n 0, 1) := by decide +kernel
theorem dX5_edit_102 : decode cX5_edit 102 = .ok (.getfield 7, 3) := by decide +kernel
theorem dX5_edit_105 : decode cX5_edit 105 = .ok (.iload 6, 2) := by decide +kernel
theorem dX5_edit_107 : decode cX5_edit 107 = .ok (.iload 7, 2) := by decide +kernel
theorem dX5_edit_109 : decode cX5_edit 109 = .ok (.iadd, 1) := by decide +kernel
theorem dX5_edit_110 : decode cX5_edit 110 = .ok (.iload 5, 2) := by decide +kernel
theorem dX5_edit_112 : decode cX5_edit 112 = .ok (.iadd, 1) := by decide +kernel
theorem dX5_edit_113 : decode cX5_edit 113 = .ok (.aload_n 0, 1) := by decide +kernel
theorem dX5_edit_114 : decode cX5_edit 114 = .ok (.getfield 7, 3) := by decide +kernel
theorem dX5_edit_117 : decode cX5_edit 117 = .ok (.iload 6, 2) := by decide +kernel
theorem dX5_edit_119 : decode cX5_edit 119 = .ok (.iload 7, 2) := by decide +kernel
theorem dX5_edit_121 : decode cX5_edit 121 = .ok (.iadd, 1) := by decide +kernel
theorem dX5_edit_122 : decode cX5_edit 122 = .ok (.iaload, 1) := by decide +kernel
theorem dX5_edit_123 : decode cX5_edit 123 = .ok (.iastore, 1) := by decide +kernel
theorem dX5_edit_124 : decode cX5_edit 124 = .ok (.iinc 7 1, 3) := by decide +kernel
theorem dX5_edit_127 : decode cX5_edit 127 = .ok (.goto (-38), 3) := by decide +kernel
theorem dX5_edit_130 : decode cX5_edit 130 = .ok (.iconst 0, 1) := by decide +kernel
theorem dX5_edit_131 : decode cX5_edit 131 = .ok (.istore 7, 2) := by decide +kernel
theorem dX5_edit_133 : decode cX5_edit 133 = .ok (.iload 7, 2) := by decide +kernel
theorem dX5_edit_135 : decode cX5_edit 135 = .ok (.aload_n 0, 1) := by decide +kernel
theorem dX5_edit_136 : decode cX5_edit 136 = .ok (.getfield 62, 3) := by decide +kernel
theorem dX5_edit_139 : decode cX5_edit 139 = .ok (.if_icmp .ge 28, 3) := by decide +kernel
theorem dX5_edit_142 : decode cX5_edit 142 = .ok (.aload_n 0, 1) := by decide +kernel
theorem dX5_edit_143 : decode cX5_edit 143 = .ok (.getfield 7, 3) := by decide +kernel
theorem dX5_edit_146 : decode cX5_edit 146 = .ok (.iload 6, 2) := by decide +kernel
theorem dX5_edit_148 : decode cX5_edit 148 = .ok (.iload_n 2, 1) := by decide +kernel
theorem dX5_edit_149 : decode cX5_edit 149 = .ok (.iadd, 1) := by decide +kernel
theorem dX5_edit_150 : decode cX5_edit 150 = .ok (.iload 7, 2) := by decide +kernel
theorem dX5_edit_152 : decode cX5_edit 152 = .ok (.iadd, 1) := by decide +kernel
theorem dX5_edit_153 : decode cX5_edit 153 = .ok (.aload_n 0, 1) := by decide +kernel
theorem dX5_edit_154 : decode cX5_edit 154 = .ok (.getfield 22, 3) := by decide +kernel
theorem dX5_edit_157 : decode cX5_edit 157 = .ok (.iload 7, 2) := by decide +kernel
theorem dX5_edit_159 : decode cX5_edit 159 = .ok (.iaload, 1) := by decide +kernel
theorem dX5_edit_160 : decode cX5_edit 160 = .ok (.iastore, 1) := by decide +kernel
theorem dX5_edit_161 : decode cX5_edit 161 = .ok (.iinc 7 1, 3) := by decide +kernel
theorem dX5_edit_164 : decode cX5_edit 164 = .ok (.goto (-31), 3) := by decide +kernel
theorem dX5_edit_167 : decode cX5_edit 167 = .ok (.aload_n 0, 1) := by decide +kernel
theorem dX5_edit_168 : decode cX5_edit 168 = .ok (.getfield 13, 3) := by decide +kernel
theorem dX5_edit_171 : decode cX5_edit 171 = .ok (.iload_n 1, 1) := by decide +kernel
theorem dX5_edit_172 : decode cX5_edit 172 = .ok (.iload 4, 2) := by decide +kernel
theorem dX5_edit_174 : decode cX5_edit 174 = .ok (.iload 5, 2) := by decide +kernel
theorem dX5_edit_176 : decode cX5_edit 176 = .ok (.iadd, 1) := by decide +kernel
theorem dX5_edit_177 : decode cX5_edit 177 = .ok (.iastore, 1) := by decide +kernel
theorem dX5_edit_178 : decode cX5_edit 178 = .ok (.aload_n 0, 1) := by decide +kernel
theorem dX5_edit_179 : decode cX5_edit 179 = .ok (.getfield 13, 3) := by decide +kernel
theorem dX5_edit_182 : decode cX5_edit 182 = .ok (.iload_n 1, 1) := by decide +kernel
theorem dX5_edit_183 : decode cX5_edit 183 = .ok (.iaload, 1) := by decide +kernel
theorem dX5_edit_184 : decode cX5_edit 184 = .ok (.ireturn, 1) := by decide +kernel
theorem dX5_append_0 : decode cX5_append 0 = .ok (.aload_n 0, 1) := by decide +kernel
theorem dX5_append_1 : decode cX5_append 1 = .ok (.iload_n 1, 1) := by decide +kernel
theorem dX5_append_2 : decode cX5_append 2 = .ok (.aload_n 0, 1) := by decide +kernel
theorem dX5_append_3 : decode cX5_append 3 = .ok (.getfield 13, 3) := by decide +kernel
theorem dX5_append_6 : decode cX5_append 6 = .ok (.iload_n 1, 1) := by decide +kernel
theorem dX5_append_7 : decode cX5_append 7 = .ok (.iaload, 1) := by decide +kernel
theorem dX5_append_8 : decode cX5_append 8 = .ok (.aload_n 0, 1) := by decide +kernel
theorem dX5_append_9 : decode cX5_append 9 = .ok (.getfield 13, 3) := by decide +kernel
theorem dX5_append_12 : decode cX5_append 12 = .ok (.iload_n 1, 1) := by decide +kernel
theorem dX5_append_13 : decode cX5_append 13 = .ok (.iaload, 1) := by decide +kernel
theorem dX5_append_14 : decode cX5_append 14 = .ok (.invokevirtual 66, 3) := by decide +kernel
theorem dX5_append_17 : decode cX5_append 17 = .ok (.ireturn, 1) := by decide +kernel
theorem dX5_sign_0 : decode cX5_sign 0 = .ok (.iload_n 1, 1) := by decide +kernel
theorem dX5_sign_1 : decode cX5_sign 1 = .ok (.invokestatic 70, 3) := by decide +kernel
theorem dX5_sign_4 : decode cX5_sign 4 = .ok (.ifCond .ne 7, 3) := by decide +kernel
theorem dX5_sign_7 : decode cX5_sign 7 = .ok (.sipush (-1001), 3) := by decide +kernel
theorem dX5_sign_10 : decode cX5_sign 10 = .ok (.ireturn, 1) := by decide +kernel
theorem dX5_sign_11 : decode cX5_sign 11 = .ok (.iload_n 2, 1) := by decide +kernel
theorem dX5_sign_12 : decode cX5_sign 12 = .ok (.invokestatic 74, 3) := by decide +kernel
theorem dX5_sign_15 : decode cX5_sign 15 = .ok (.ifCond .ne 7, 3) := by decide +kernel
theorem dX5_sign_18 : decode cX5_sign 18 = .ok (.sipush (-1002), 3) := by decide +kernel
theorem dX5_sign_21 : decode cX5_sign 21 = .ok (.ireturn, 1) := by decide +kernel
theorem dX5_sign_22 : decode cX5_sign 22 = .ok (.aload_n 0, 1) := by decide +kernel
theorem dX5_sign_23 : decode cX5_sign 23 = .ok (.iload_n 2, 1) := by decide +kernel
theorem dX5_sign_24 : decode cX5_sign 24 = .ok (.invokevirtual 77, 3) := by decide +kernel
theorem dX5_sign_27 : decode cX5_sign 27 = .ok (.aload_n 0, 1) := by decide +kernel
theorem dX5_sign_28 : decode cX5_sign 28 = .ok (.iload_n 1, 1) := by decide +kernel
theorem dX5_sign_29 : decode cX5_sign 29 = .ok (.invokevirtual 81, 3) := by decide +kernel
theorem dX5_sign_32 : decode cX5_sign 32 = .ok (.ireturn, 1) := by decide +kernel
theorem dX5_signs_0 : decode cX5_signs 0 = .ok (.iload_n 1, 1) := by decide +kernel
theorem dX5_signs_1 : decode cX5_signs 1 = .ok (.invokestatic 70, 3) := by decide +kernel
theorem dX5_signs_4 : decode cX5_signs 4 = .ok (.ifCond .ne 7, 3) := by decide +kernel
theorem dX5_signs_7 : decode cX5_signs 7 = .ok (.sipush (-1001), 3) := by decide +kernel
theorem dX5_signs_10 : decode cX5_signs 10 = .ok (.ireturn, 1) := by decide +kernel
theorem dX5_signs_11 : decode cX5_signs 11 = .ok (.iload_n 2, 1) := by decide +kernel
theorem dX5_signs_12 : decode cX5_signs 12 = .ok (.i2l, 1) := by decide +kernel
theorem dX5_signs_13 : decode cX5_signs 13 = .ok (.lconst 0, 1) := by decide +kernel
theorem dX5_signs_14 : decode cX5_signs 14 = .ok (.ldc2_w 85, 3) := by decide +kernel
theorem dX5_signs_17 : decode cX5_signs 17 = .ok (.invokestatic 54, 3) := by decide +kernel
theorem dX5_signs_20 : decode cX5_signs 20 = .ok (.ifCond .ne 7, 3) := by decide +kernel
theorem dX5_signs_23 : decode cX5_signs 23 = .ok (.sipush (-1002), 3) := by decide +kernel
theorem dX5_signs_26 : decode cX5_signs 26 = .ok (.ireturn, 1) := by decide +kernel
theorem dX5_signs_27 : decode cX5_signs 27 = .ok (.aload_n 0, 1) := by decide +kernel
theorem dX5_signs_28 : decode cX5_signs 28 = .ok (.iload_n 2, 1) := by decide +kernel
theorem dX5_signs_29 : decode cX5_signs 29 = .ok (.putfield 62, 3) := by decide +kernel
theorem dX5_signs_32 : decode cX5_signs 32 = .ok (.iconst 0, 1) := by decide +kernel
theorem dX5_signs_33 : decode cX5_signs 33 = .ok (.istore 5, 2) := by decide +kernel
theorem dX5_signs_35 : decode cX5_signs 35 = .ok (.iload 5, 2) := by decide +kernel
theorem dX5_signs_37 : decode cX5_signs 37 = .ok (.iload_n 2, 1) := by decide +kernel
theorem dX5_signs_38 : decode cX5_signs 38 = .ok (.if_icmp .ge 32, 3) := by decide +kernel
theorem dX5_signs_41 : decode cX5_signs 41 = .ok (.aload_n 0, 1) := by decide +kernel
theorem dX5_signs_42 : decode cX5_signs 42 = .ok (.getfield 22, 3) := by decide +kernel
theorem dX5_signs_45 : decode cX5_signs 45 = .ok (.iload 5, 2) := by decide +kernel
theorem dX5_signs_47 : decode cX5_signs 47 = .ok (.lload_n 3, 1) := by decide +kernel
theorem dX5_signs_48 : decode cX5_signs 48 = .ok (.bipush 8, 2) := by decide +kernel
theorem dX5_signs_50 : decode cX5_signs 50 = .ok (.iload_n 2, 1) := by decide +kernel
theorem dX5_signs_51 : decode cX5_signs 51 = .ok (.iconst 1, 1) := by decide +kernel
theorem dX5_signs_52 : decode cX5_signs 52 = .ok (.isub, 1) := by decide +kernel
theorem dX5_signs_53 : decode cX5_signs 53 = .ok (.iload 5, 2) := by decide +kernel
theorem dX5_signs_55 : decode cX5_signs 55 = .ok (.isub, 1) := by decide +kernel
theorem dX5_signs_56 : decode cX5_signs 56 = .ok (.imul, 1) := by decide +kernel
theorem dX5_signs_57 : decode cX5_signs 57 = .ok (.lshr, 1) := by decide +kernel
theorem dX5_signs_58 : decode cX5_signs 58 = .ok (.ldc2_w 60, 3) := by decide +kernel
theorem dX5_signs_61 : decode cX5_signs 61 = .ok (.land, 1) := by decide +kernel
theorem dX5_signs_62 : decode cX5_signs 62 = .ok (.l2i, 1) := by decide +kernel
theorem dX5_signs_63 : decode cX5_signs 63 = .ok (.iastore, 1) := by decide +kernel
theorem dX5_signs_64 : decode cX5_signs 64 = .ok (.iinc 5 1, 3) := by decide +kernel
theorem dX5_signs_67 : decode cX5_signs 67 = .ok (.goto (-32), 3) := by decide +kernel
theorem dX5_signs_70 : decode cX5_signs 70 = .ok (.aload_n 0, 1) := by decide +kernel
theorem dX5_signs_71 : decode cX5_signs 71 = .ok (.iload_n 1, 1) := by decide +kernel
theorem dX5_signs_72 : decode cX5_signs 72 = .ok (.invokevirtual 81, 3) := by decide +kernel
theorem dX5_signs_75 : decode cX5_signs 75 = .ok (.ireturn, 1) := by decide +kernel
theorem dX5_text_0 : decode cX5_text 0 = .ok (.iload_n 1, 1) := by decide +kernel
theorem dX5_text_1 : decode cX5_text 1 = .ok (.invokestatic 70, 3) := by decide +kernel
theorem dX5_text_4 : decode cX5_text 4 = .ok (.ifCond .eq 10, 3) := by decide +kernel
theorem dX5_text_7 : decode cX5_text 7 = .ok (.iload_n 2, 1) := by decide +kernel
theorem dX5_text_8 : decode cX5_text 8 = .ok (.invokestatic 87, 3) := by decide +kernel
theorem dX5_text_11 : decode cX5_text 11 = .ok (.ifCond .ne 7, 3) := by decide +kernel
theorem dX5_text_14 : decode cX5_text 14 = .ok (.sipush (-1001), 3) := by decide +kernel
theorem dX5_text_17 : decode cX5_text 17 = .ok (.ireturn, 1) := by decide +kernel
theorem dX5_text_18 : decode cX5_text 18 = .ok (.aload_n 0, 1) := by decide +kernel
theorem dX5_text_19 : decode cX5_text 19 = .ok (.iload_n 2, 1) := by decide +kernel
theorem dX5_text_20 : decode cX5_text 20 = .ok (.invokevirtual 90, 3) := by decide +kernel
theorem dX5_text_23 : decode cX5_text 23 = .ok (.aload_n 0, 1) := by decide +kernel
theorem dX5_text_24 : decode cX5_text 24 = .ok (.iload_n 1, 1) := by decide +kernel
theorem dX5_text_25 : decode cX5_text 25 = .ok (.invokevirtual 81, 3) := by decide +kernel
theorem dX5_text_28 : decode cX5_text 28 = .ok (.ireturn, 1) := by decide +kernel
theorem dX5_part_0 : decode cX5_part 0 = .ok (.iload_n 1, 1) := by decide +kernel
theorem dX5_part_1 : decode cX5_part 1 = .ok (.invokestatic 70, 3) := by decide +kernel
theorem dX5_part_4 : decode cX5_part 4 = .ok (.ifCond .eq 10, 3) := by decide +kernel
theorem dX5_part_7 : decode cX5_part 7 = .ok (.iload_n 2, 1) := by decide +kernel
theorem dX5_part_8 : decode cX5_part 8 = .ok (.invokestatic 87, 3) := by decide +kernel
theorem dX5_part_11 : decode cX5_part 11 = .ok (.ifCond .ne 7, 3) := by decide +kernel
theorem dX5_part_14 : decode cX5_part 14 = .ok (.sipush (-1001), 3) := by decide +kernel
theorem dX5_part_17 : decode cX5_part 17 = .ok (.ireturn, 1) := by decide +kernel
theorem dX5_part_18 : decode cX5_part 18 = .ok (.aload_n 0, 1) := by decide +kernel
theorem dX5_part_19 : decode cX5_part 19 = .ok (.iload_n 2, 1) := by decide +kernel
theorem dX5_part_20 : decode cX5_part 20 = .ok (.invokevirtual 90, 3) := by decide +kernel
theorem dX5_part_23 : decode cX5_part 23 = .ok (.iload_n 3, 1) := by decide +kernel
theorem dX5_part_24 : decode cX5_part 24 = .ok (.ifCond .lt 18, 3) := by decide +kernel
theorem dX5_part_27 : decode cX5_part 27 = .ok (.iload 4, 2) := by decide +kernel
theorem dX5_part_29 : decode cX5_part 29 = .ok (.aload_n 0, 1) := by decide +kernel
theorem dX5_part_30 : decode cX5_part 30 = .ok (.getfield 62, 3) := by decide +kernel
theorem dX5_part_33 : decode cX5_part 33 = .ok (.if_icmp .gt 9, 3) := by decide +kernel
theorem dX5_part_36 : decode cX5_part 36 = .ok (.iload_n 3, 1) := by decide +kernel
theorem dX5_part_37 : decode cX5_part 37 = .ok (.iload 4, 2) := by decide +kernel
theorem dX5_part_39 : decode cX5_part 39 = .ok (.if_icmp .le 7, 3) := by decide +kernel
theorem dX5_part_42 : decode cX5_part 42 = .ok (.sipush (-1005), 3) := by decide +kernel
theorem dX5_part_45 : decode cX5_part 45 = .ok (.ireturn, 1) := by decide +kernel
theorem dX5_part_46 : decode cX5_part 46 = .ok (.aload_n 0, 1) := by decide +kernel
theorem dX5_part_47 : decode cX5_part 47 = .ok (.iload_n 3, 1) := by decide +kernel
theorem dX5_part_48 : decode cX5_part 48 = .ok (.iload 4, 2) := by decide +kernel
theorem dX5_part_50 : decode cX5_part 50 = .ok (.invokevirtual 93, 3) := by decide +kernel
theorem dX5_part_53 : decode cX5_part 53 = .ok (.aload_n 0, 1) := by decide +kernel
theorem dX5_part_54 : decode cX5_part 54 = .ok (.iload_n 1, 1) := by decide +kernel
theorem dX5_part_55 : decode cX5_part 55 = .ok (.invokevirtual 81, 3) := by decide +kernel
theorem dX5_part_58 : decode cX5_part 58 = .ok (.ireturn, 1) := by decide +kernel
theorem dX5_number_0 : decode cX5_number 0 = .ok (.iload_n 1, 1) := by decide +kernel
theorem dX5_number_1 : decode cX5_number 1 = .ok (.invokestatic 70, 3) := by decide +kernel
theorem dX5_number_4 : decode cX5_number 4 = .ok (.ifCond .ne 7, 3) := by decide +kernel
theorem dX5_number_7 : decode cX5_number 7 = .ok (.sipush (-1001), 3) := by decide +kernel
theorem dX5_number_10 : decode cX5_number 10 = .ok (.ireturn, 1) := by decide +kernel
theorem dX5_number_11 : decode cX5_number 11 = .ok (.lload_n 2, 1) := by decide +kernel
theorem dX5_number_12 : decode cX5_number 12 = .ok (.lstore 4, 2) := by decide +kernel
theorem dX5_number_14 : decode cX5_number 14 = .ok (.iconst 0, 1) := by decide +kernel
theorem dX5_number_15 : decode cX5_number 15 = .ok (.istore 6, 2) := by decide +kernel
theorem dX5_number_17 : decode cX5_number 17 = .ok (.lload 4, 2) := by decide +kernel
theorem dX5_number_19 : decode cX5_number 19 = .ok (.lconst 0, 1) := by decide +kernel
theorem dX5_number_20 : decode cX5_number 20 = .ok (.lcmp, 1) := by decide +kernel
theorem dX5_number_21 : decode cX5_number 21 = .ok (.ifCond .ne 8, 3) := by decide +kernel
theorem dX5_number_24 : decode cX5_number 24 = .ok (.iload 6, 2) := by decide +kernel
theorem dX5_number_26 : decode cX5_number 26 = .ok (.ifCond .ne 49, 3) := by decide +kernel
theorem dX5_number_29 : decode cX5_number 29 = .ok (.lload 4, 2) := by decide +kernel
theorem dX5_number_31 : decode cX5_number 31 = .ok (.ldc2_w 97, 3) := by decide +kernel
theorem dX5_number_34 : decode cX5_number 34 = .ok (.lrem, 1) := by decide +kernel
theorem dX5_number_35 : decode cX5_number 35 = .ok (.l2i, 1) := by decide +kernel
theorem dX5_number_36 : decode cX5_number 36 = .ok (.istore 7, 2) := by decide +kernel
theorem dX5_number_38 : decode cX5_number 38 = .ok (.aload_n 0, 1) := by decide +kernel
theorem dX5_number_39 : decode cX5_number 39 = .ok (.getfield 25, 3) := by decide +kernel
theorem dX5_number_42 : decode cX5_number 42 = .ok (.iload 6, 2) := by decide +kernel
theorem dX5_number_44 : decode cX5_number 44 = .ok (.bipush 48, 2) := by decide +kernel
theorem dX5_number_46 : decode cX5_number 46 = .ok (.iload 7, 2) := by decide +kernel
theorem dX5_number_48 : decode cX5_number 48 = .ok (.ifCond .ge 9, 3) := by decide +kernel
theorem dX5_number_51 : decode cX5_number 51 = .ok (.iload 7, 2) := by decide +kernel
theorem dX5_number_53 : decode cX5_number 53 = .ok (.ineg, 1) := by decide +kernel
theorem dX5_number_54 : decode cX5_number 54 = .ok (.goto 5, 3) := by decide +kernel
theorem dX5_number_57 : decode cX5_number 57 = .ok (.iload 7, 2) := by decide +kernel
theorem dX5_number_59 : decode cX5_number 59 = .ok (.iadd, 1) := by decide +kernel
theorem dX5_number_60 : decode cX5_number 60 = .ok (.iastore, 1) := by decide +kernel
theorem dX5_number_61 : decode cX5_number 61 = .ok (.lload 4, 2) := by decide +kernel
theorem dX5_number_63 : decode cX5_number 63 = .ok (.ldc2_w 97, 3) := by decide +kernel
theorem dX5_number_66 : decode cX5_number 66 = .ok (.ldiv, 1) := by decide +kernel
theorem dX5_number_67 : decode cX5_number 67 = .ok (.lstore 4, 2) := by decide +kernel
theorem dX5_number_69 : decode cX5_number 69 = .ok (.iinc 6 1, 3) := by decide +kernel
theorem dX5_number_72 : decode cX5_number 72 = .ok (.goto (-55), 3) := by decide +kernel
theorem dX5_number_75 : decode cX5_number 75 = .ok (.aload_n 0, 1) := by decide +kernel
theorem dX5_number_76 : decode cX5_number 76 = .ok (.iconst 0, 1) := by decide +kernel
theorem dX5_number_77 : decode cX5_number 77 = .ok (.putfield 62, 3) := by decide +kernel
theorem dX5_number_80 : decode cX5_number 80 = .ok (.lload_n 2, 1) := by decide +kernel
theorem dX5_number_81 : decode cX5_number 81 = .ok (.lconst 0, 1) := by decide +kernel
theorem dX5_number_82 : decode cX5_number 82 = .ok (.lcmp, 1) := by decide +kernel
theorem dX5_number_83 : decode cX5_number 83 = .ok (.ifCond .ge 9, 3) := by decide +kernel
theorem dX5_number_86 : decode cX5_number 86 = .ok (.aload_n 0, 1) := by decide +kernel
theorem dX5_number_87 : decode cX5_number 87 = .ok (.bipush 45, 2) := by decide +kernel
theorem dX5_number_89 : decode cX5_number 89 = .ok (.invokevirtual 77, 3) := by decide +kernel
theorem dX5_number_92 : decode cX5_number 92 = .ok (.iload 6, 2) := by decide +kernel
theorem dX5_number_94 : decode cX5_number 94 = .ok (.iconst 1, 1) := by decide +kernel
theorem dX5_number_95 : decode cX5_number 95 = .ok (.isub, 1) := by decide +kernel
theorem dX5_number_96 : decode cX5_number 96 = .ok (.istore 7, 2) := by decide +kernel
theorem dX5_number_98 : decode cX5_number 98 = .ok (.iload 7, 2) := by decide +kernel
theorem dX5_number_100 : decode cX5_number 100 = .ok (.ifCond .lt 35, 3) := by decide +kernel
theorem dX5_number_103 : decode cX5_number 103 = .ok (.aload_n 0, 1) := by decide +kernel
theorem dX5_number_104 : decode cX5_number 104 = .ok (.getfield 22, 3) := by decide +kernel
theorem dX5_number_107 : decode cX5_number 107 = .ok (.aload_n 0, 1) := by decide +kernel
theorem dX5_number_108 : decode cX5_number 108 = .ok (.getfield 62, 3) := by decide +kernel
theorem dX5_number_111 : decode cX5_number 111 = .ok (.aload_n 0, 1) := by decide +kernel
theorem dX5_number_112 : decode cX5_number 112 = .ok (.getfield 25, 3) := by decide +kernel
theorem dX5_number_115 : decode cX5_number 115 = .ok (.iload 7, 2) := by decide +kernel
theorem dX5_number_117 : decode cX5_number 117 = .ok (.iaload, 1) := by decide +kernel
theorem dX5_number_118 : decode cX5_number 118 = .ok (.iastore, 1) := by decide +kernel
theorem dX5_number_119 : decode cX5_number 119 = .ok (.aload_n 0, 1) := by decide +kernel
theorem dX5_number_120 : decode cX5_number 120 = .ok (.dup, 1) := by decide +kernel
theorem dX5_number_121 : decode cX5_number 121 = .ok (.getfield 62, 3) := by decide +kernel
theorem dX5_number_124 : decode cX5_number 124 = .ok (.iconst 1, 1) := by decide +kernel
theorem dX5_number_125 : decode cX5_number 125 = .ok (.iadd, 1) := by decide +kernel
theorem dX5_number_126 : decode cX5_number 126 = .ok (.putfield 62, 3) := by decide +kernel
theorem dX5_number_129 : decode cX5_number 129 = .ok (.iinc 7 (-1), 3) := by decide +kernel
theorem dX5_number_132 : decode cX5_number 132 = .ok (.goto (-34), 3) := by decide +kernel
theorem dX5_number_135 : decode cX5_number 135 = .ok (.aload_n 0, 1) := by decide +kernel
theorem dX5_number_136 : decode cX5_number 136 = .ok (.iload_n 1, 1) := by decide +kernel
theorem dX5_number_137 : decode cX5_number 137 = .ok (.invokevirtual 81, 3) := by decide +kernel
theorem dX5_number_140 : decode cX5_number 140 = .ok (.ireturn, 1) := by decide +kernel
theorem dX5_insert_0 : decode cX5_insert 0 = .ok (.iload_n 1, 1) := by decide +kernel
theorem dX5_insert_1 : decode cX5_insert 1 = .ok (.invokestatic 70, 3) := by decide +kernel
theorem dX5_insert_4 : decode cX5_insert 4 = .ok (.ifCond .eq 10, 3) := by decide +kernel
theorem dX5_insert_7 : decode cX5_insert 7 = .ok (.iload_n 3, 1) := by decide +kernel
theorem dX5_insert_8 : decode cX5_insert 8 = .ok (.invokestatic 87, 3) := by decide +kernel
theorem dX5_insert_11 : decode cX5_insert 11 = .ok (.ifCond .ne 7, 3) := by decide +kernel
theorem dX5_insert_14 : decode cX5_insert 14 = .ok (.sipush (-1001), 3) := by decide +kernel
theorem dX5_insert_17 : decode cX5_insert 17 = .ok (.ireturn, 1) := by decide +kernel
theorem dX5_insert_18 : decode cX5_insert 18 = .ok (.iload_n 2, 1) := by decide +kernel
theorem dX5_insert_19 : decode cX5_insert 19 = .ok (.i2l, 1) := by decide +kernel
theorem dX5_insert_20 : decode cX5_insert 20 = .ok (.lconst 0, 1) := by decide +kernel
theorem dX5_insert_21 : decode cX5_insert 21 = .ok (.aload_n 0, 1) := by decide +kernel
theorem dX5_insert_22 : decode cX5_insert 22 = .ok (.getfield 13, 3) := by decide +kernel
theorem dX5_insert_25 : decode cX5_insert 25 = .ok (.iload_n 1, 1) := by decide +kernel
theorem dX5_insert_26 : decode cX5_insert 26 = .ok (.iaload, 1) := by decide +kernel
theorem dX5_insert_27 : decode cX5_insert 27 = .ok (.i2l, 1) := by decide +kernel
theorem dX5_insert_28 : decode cX5_insert 28 = .ok (.invokestatic 54, 3) := by decide +kernel
theorem dX5_insert_31 : decode cX5_insert 31 = .ok (.ifCond .ne 7, 3) := by decide +kernel
theorem dX5_insert_34 : decode cX5_insert 34 = .ok (.sipush (-1005), 3) := by decide +kernel
theorem dX5_insert_37 : decode cX5_insert 37 = .ok (.ireturn, 1) := by decide +kernel
theorem dX5_insert_38 : decode cX5_insert 38 = .ok (.aload_n 0, 1) := by decide +kernel
theorem dX5_insert_39 : decode cX5_insert 39 = .ok (.iload_n 3, 1) := by decide +kernel
theorem dX5_insert_40 : decode cX5_insert 40 = .ok (.invokevirtual 90, 3) := by decide +kernel
theorem dX5_insert_43 : decode cX5_insert 43 = .ok (.aload_n 0, 1) := by decide +kernel
theorem dX5_insert_44 : decode cX5_insert 44 = .ok (.iload_n 1, 1) := by decide +kernel
theorem dX5_insert_45 : decode cX5_insert 45 = .ok (.iload_n 2, 1) := by decide +kernel
theorem dX5_insert_46 : decode cX5_insert 46 = .ok (.iload_n 2, 1) := by decide +kernel
theorem dX5_insert_47 : decode cX5_insert 47 = .ok (.invokevirtual 66, 3) := by decide +kernel
theorem dX5_insert_50 : decode cX5_insert 50 = .ok (.ireturn, 1) := by decide +kernel
theorem dX5_insertPart_0 : decode cX5_insertPart 0 = .ok (.iload_n 1, 1) := by decide +kernel
theorem dX5_insertPart_1 : decode cX5_insertPart 1 = .ok (.invokestatic 70, 3) := by decide +kernel
theorem dX5_insertPart_4 : decode cX5_insertPart 4 = .ok (.ifCond .eq 10, 3) := by decide +kernel
theorem dX5_insertPart_7 : decode cX5_insertPart 7 = .ok (.iload_n 3, 1) := by decide +kernel
theorem dX5_insertPart_8 : decode cX5_insertPart 8 = .ok (.invokestatic 87, 3) := by decide +kernel
theorem dX5_insertPart_11 : decode cX5_insertPart 11 = .ok (.ifCond .ne 7, 3) := by decide +kernel
theorem dX5_insertPart_14 : decode cX5_insertPart 14 = .ok (.sipush (-1001), 3) := by decide +kernel
theorem dX5_insertPart_17 : decode cX5_insertPart 17 = .ok (.ireturn, 1) := by decide +kernel
theorem dX5_insertPart_18 : decode cX5_insertPart 18 = .ok (.aload_n 0, 1) := by decide +kernel
theorem dX5_insertPart_19 : decode cX5_insertPart 19 = .ok (.iload_n 3, 1) := by decide +kernel
theorem dX5_insertPart_20 : decode cX5_insertPart 20 = .ok (.invokevirtual 90, 3) := by decide +kernel
theorem dX5_insertPart_23 : decode cX5_insertPart 23 = .ok (.iload_n 2, 1) := by decide +kernel
theorem dX5_insertPart_24 : decode cX5_insertPart 24 = .ok (.i2l, 1) := by decide +kernel
theorem dX5_insertPart_25 : decode cX5_insertPart 25 = .ok (.lconst 0, 1) := by decide +kernel
theorem dX5_insertPart_26 : decode cX5_insertPart 26 = .ok (.aload_n 0, 1) := by decide +kernel
theorem dX5_insertPart_27 : decode cX5_insertPart 27 = .ok (.getfield 13, 3) := by decide +kernel
theorem dX5_insertPart_30 : decode cX5_insertPart 30 = .ok (.iload_n 1, 1) := by decide +kernel
theorem dX5_insertPart_31 : decode cX5_insertPart 31 = .ok (.iaload, 1) := by decide +kernel
theorem dX5_insertPart_32 : decode cX5_insertPart 32 = .ok (.i2l, 1) := by decide +kernel
theorem dX5_insertPart_33 : decode cX5_insertPart 33 = .ok (.invokestatic 54, 3) := by decide +kernel
theorem dX5_insertPart_36 : decode cX5_insertPart 36 = .ok (.ifCond .eq 24, 3) := by decide +kernel
theorem dX5_insertPart_39 : decode cX5_insertPart 39 = .ok (.iload 4, 2) := by decide +kernel
theorem dX5_insertPart_41 : decode cX5_insertPart 41 = .ok (.ifCond .lt 19, 3) := by decide +kernel
theorem dX5_insertPart_44 : decode cX5_insertPart 44 = .ok (.iload 5, 2) := by decide +kernel
theorem dX5_insertPart_46 : decode cX5_insertPart 46 = .ok (.aload_n 0, 1) := by decide +kernel
theorem dX5_insertPart_47 : decode cX5_insertPart 47 = .ok (.getfield 62, 3) := by decide +kernel
theorem dX5_insertPart_50 : decode cX5_insertPart 50 = .ok (.if_icmp .gt 10, 3) := by decide +kernel
theorem dX5_insertPart_53 : decode cX5_insertPart 53 = .ok (.iload 4, 2) := by decide +kernel
theorem dX5_insertPart_55 : decode cX5_insertPart 55 = .ok (.iload 5, 2) := by decide +kernel
theorem dX5_insertPart_57 : decode cX5_insertPart 57 = .ok (.if_icmp .le 7, 3) := by decide +kernel
theorem dX5_insertPart_60 : decode cX5_insertPart 60 = .ok (.sipush (-1005), 3) := by decide +kernel
theorem dX5_insertPart_63 : decode cX5_insertPart 63 = .ok (.ireturn, 1) := by decide +kernel
theorem dX5_insertPart_64 : decode cX5_insertPart 64 = .ok (.aload_n 0, 1) := by decide +kernel
theorem dX5_insertPart_65 : decode cX5_insertPart 65 = .ok (.iload 4, 2) := by decide +kernel
theorem dX5_insertPart_67 : decode cX5_insertPart 67 = .ok (.iload 5, 2) := by decide +kernel
theorem dX5_insertPart_69 : decode cX5_insertPart 69 = .ok (.invokevirtual 93, 3) := by decide +kernel
theorem dX5_insertPart_72 : decode cX5_insertPart 72 = .ok (.aload_n 0, 1) := by decide +kernel
theorem dX5_insertPart_73 : decode cX5_insertPart 73 = .ok (.iload_n 1, 1) := by decide +kernel
theorem dX5_insertPart_74 : decode cX5_insertPart 74 = .ok (.iload_n 2, 1) := by decide +kernel
theorem dX5_insertPart_75 : decode cX5_insertPart 75 = .ok (.iload_n 2, 1) := by decide +kernel
theorem dX5_insertPart_76 : decode cX5_insertPart 76 = .ok (.invokevirtual 66, 3) := by decide +kernel
theorem dX5_insertPart_79 : decode cX5_insertPart 79 = .ok (.ireturn, 1) := by decide +kernel
theorem dX5_insertSign_0 : decode cX5_insertSign 0 = .ok (.iload_n 1, 1) := by decide +kernel
theorem dX5_insertSign_1 : decode cX5_insertSign 1 = .ok (.invokestatic 70, 3) := by decide +kernel
theorem dX5_insertSign_4 : decode cX5_insertSign 4 = .ok (.ifCond .ne 7, 3) := by decide +kernel
theorem dX5_insertSign_7 : decode cX5_insertSign 7 = .ok (.sipush (-1001), 3) := by decide +kernel
theorem dX5_insertSign_10 : decode cX5_insertSign 10 = .ok (.ireturn, 1) := by decide +kernel
theorem dX5_insertSign_11 : decode cX5_insertSign 11 = .ok (.iload_n 3, 1) := by decide +kernel
theorem dX5_insertSign_12 : decode cX5_insertSign 12 = .ok (.invokestatic 74, 3) := by decide +kernel
theorem dX5_insertSign_15 : decode cX5_insertSign 15 = .ok (.ifCond .ne 7, 3) := by decide +kernel
theorem dX5_insertSign_18 : decode cX5_insertSign 18 = .ok (.sipush (-1002), 3) := by decide +kernel
theorem dX5_insertSign_21 : decode cX5_insertSign 21 = .ok (.ireturn, 1) := by decide +kernel
theorem dX5_insertSign_22 : decode cX5_insertSign 22 = .ok (.iload_n 2, 1) := by decide +kernel
theorem dX5_insertSign_23 : decode cX5_insertSign 23 = .ok (.i2l, 1) := by decide +kernel
theorem dX5_insertSign_24 : decode cX5_insertSign 24 = .ok (.lconst 0, 1) := by decide +kernel
theorem dX5_insertSign_25 : decode cX5_insertSign 25 = .ok (.aload_n 0, 1) := by decide +kernel
theorem dX5_insertSign_26 : decode cX5_insertSign 26 = .ok (.getfield 13, 3) := by decide +kernel
theorem dX5_insertSign_29 : decode cX5_insertSign 29 = .ok (.iload_n 1, 1) := by decide +kernel
theorem dX5_insertSign_30 : decode cX5_insertSign 30 = .ok (.iaload, 1) := by decide +kernel
theorem dX5_insertSign_31 : decode cX5_insertSign 31 = .ok (.i2l, 1) := by decide +kernel
theorem dX5_insertSign_32 : decode cX5_insertSign 32 = .ok (.invokestatic 54, 3) := by decide +kernel
theorem dX5_insertSign_35 : decode cX5_insertSign 35 = .ok (.ifCond .ne 7, 3) := by decide +kernel
theorem dX5_insertSign_38 : decode cX5_insertSign 38 = .ok (.sipush (-1005), 3) := by decide +kernel
theorem dX5_insertSign_41 : decode cX5_insertSign 41 = .ok (.ireturn, 1) := by decide +kernel
theorem dX5_insertSign_42 : decode cX5_insertSign 42 = .ok (.aload_n 0, 1) := by decide +kernel
theorem dX5_insertSign_43 : decode cX5_insertSign 43 = .ok (.iload_n 3, 1) := by decide +kernel
theorem dX5_insertSign_44 : decode cX5_insertSign 44 = .ok (.invokevirtual 77, 3) := by decide +kernel
theorem dX5_insertSign_47 : decode cX5_insertSign 47 = .ok (.aload_n 0, 1) := by decide +kernel
theorem dX5_insertSign_48 : decode cX5_insertSign 48 = .ok (.iload_n 1, 1) := by decide +kernel
theorem dX5_insertSign_49 : decode cX5_insertSign 49 = .ok (.iload_n 2, 1) := by decide +kernel
theorem dX5_insertSign_50 : decode cX5_insertSign 50 = .ok (.iload_n 2, 1) := by decide +kernel
theorem dX5_insertSign_51 : decode cX5_insertSign 51 = .ok (.invokevirtual 66, 3) := by decide +kernel
theorem dX5_insertSign_54 : decode cX5_insertSign 54 = .ok (.ireturn, 1) := by decide +kernel
theorem dX5_canDrop_0 : decode cX5_canDrop 0 = .ok (.iload_n 2, 1) := by decide +kernel
theorem dX5_canDrop_1 : decode cX5_canDrop 1 = .ok (.i2l, 1) := by decide +kernel
theorem dX5_canDrop_2 : decode cX5_canDrop 2 = .ok (.lconst 0, 1) := by decide +kernel
theorem dX5_canDrop_3 : decode cX5_canDrop 3 = .ok (.aload_n 0, 1) := by decide +kernel
theorem dX5_canDrop_4 : decode cX5_canDrop 4 = .ok (.getfield 13, 3) := by decide +kernel
theorem dX5_canDrop_7 : decode cX5_canDrop 7 = .ok (.iload_n 1, 1) := by decide +kernel
theorem dX5_canDrop_8 : decode cX5_canDrop 8 = .ok (.iaload, 1) := by decide +kernel
theorem dX5_canDrop_9 : decode cX5_canDrop 9 = .ok (.i2l, 1) := by decide +kernel
theorem dX5_canDrop_10 : decode cX5_canDrop 10 = .ok (.invokestatic 54, 3) := by decide +kernel
theorem dX5_canDrop_13 : decode cX5_canDrop 13 = .ok (.ifCond .eq 12, 3) := by decide +kernel
theorem dX5_canDrop_16 : decode cX5_canDrop 16 = .ok (.iload_n 2, 1) := by decide +kernel
theorem dX5_canDrop_17 : decode cX5_canDrop 17 = .ok (.iload_n 3, 1) := by decide +kernel
theorem dX5_canDrop_18 : decode cX5_canDrop 18 = .ok (.if_icmp .gt 7, 3) := by decide +kernel
theorem dX5_canDrop_21 : decode cX5_canDrop 21 = .ok (.iconst 1, 1) := by decide +kernel
theorem dX5_canDrop_22 : decode cX5_canDrop 22 = .ok (.goto 4, 3) := by decide +kernel
theorem dX5_canDrop_25 : decode cX5_canDrop 25 = .ok (.iconst 0, 1) := by decide +kernel
theorem dX5_canDrop_26 : decode cX5_canDrop 26 = .ok (.ireturn, 1) := by decide +kernel
theorem dX5_endOf_0 : decode cX5_endOf 0 = .ok (.iload_n 2, 1) := by decide +kernel
theorem dX5_endOf_1 : decode cX5_endOf 1 = .ok (.aload_n 0, 1) := by decide +kernel
theorem dX5_endOf_2 : decode cX5_endOf 2 = .ok (.getfield 13, 3) := by decide +kernel
theorem dX5_endOf_5 : decode cX5_endOf 5 = .ok (.iload_n 1, 1) := by decide +kernel
theorem dX5_endOf_6 : decode cX5_endOf 6 = .ok (.iaload, 1) := by decide +kernel
theorem dX5_endOf_7 : decode cX5_endOf 7 = .ok (.if_icmp .le 12, 3) := by decide +kernel
theorem dX5_endOf_10 : decode cX5_endOf 10 = .ok (.aload_n 0, 1) := by decide +kernel
theorem dX5_endOf_11 : decode cX5_endOf 11 = .ok (.getfield 13, 3) := by decide +kernel
theorem dX5_endOf_14 : decode cX5_endOf 14 = .ok (.iload_n 1, 1) := by decide +kernel
theorem dX5_endOf_15 : decode cX5_endOf 15 = .ok (.iaload, 1) := by decide +kernel
theorem dX5_endOf_16 : decode cX5_endOf 16 = .ok (.goto 4, 3) := by decide +kernel
theorem dX5_endOf_19 : decode cX5_endOf 19 = .ok (.iload_n 2, 1) := by decide +kernel
theorem dX5_endOf_20 : decode cX5_endOf 20 = .ok (.ireturn, 1) := by decide +kernel
theorem dX5_delete_0 : decode cX5_delete 0 = .ok (.iload_n 1, 1) := by decide +kernel
theorem dX5_delete_1 : decode cX5_delete 1 = .ok (.invokestatic 70, 3) := by decide +kernel
theorem dX5_delete_4 : decode cX5_delete 4 = .ok (.ifCond .ne 7, 3) := by decide +kernel
theorem dX5_delete_7 : decode cX5_delete 7 = .ok (.sipush (-1001), 3) := by decide +kernel
theorem dX5_delete_10 : decode cX5_delete 10 = .ok (.ireturn, 1) := by decide +kernel
theorem dX5_delete_11 : decode cX5_delete 11 = .ok (.aload_n 0, 1) := by decide +kernel
theorem dX5_delete_12 : decode cX5_delete 12 = .ok (.iload_n 1, 1) := by decide +kernel
theorem dX5_delete_13 : decode cX5_delete 13 = .ok (.iload_n 2, 1) := by decide +kernel
theorem dX5_delete_14 : decode cX5_delete 14 = .ok (.iload_n 3, 1) := by decide +kernel
theorem dX5_delete_15 : decode cX5_delete 15 = .ok (.invokevirtual 99, 3) := by decide +kernel
theorem dX5_delete_18 : decode cX5_delete 18 = .ok (.ifCond .ne 7, 3) := by decide +kernel
theorem dX5_delete_21 : decode cX5_delete 21 = .ok (.sipush (-1005), 3) := by decide +kernel
theorem dX5_delete_24 : decode cX5_delete 24 = .ok (.ireturn, 1) := by decide +kernel
theorem dX5_delete_25 : decode cX5_delete 25 = .ok (.aload_n 0, 1) := by decide +kernel
theorem dX5_delete_26 : decode cX5_delete 26 = .ok (.iconst 0, 1) := by decide +kernel
theorem dX5_delete_27 : decode cX5_delete 27 = .ok (.putfield 62, 3) := by decide +kernel
theorem dX5_delete_30 : decode cX5_delete 30 = .ok (.aload_n 0, 1) := by decide +kernel
theorem dX5_delete_31 : decode cX5_delete 31 = .ok (.iload_n 1, 1) := by decide +kernel
theorem dX5_delete_32 : decode cX5_delete 32 = .ok (.iload_n 2, 1) := by decide +kernel
theorem dX5_delete_33 : decode cX5_delete 33 = .ok (.aload_n 0, 1) := by decide +kernel
theorem dX5_delete_34 : decode cX5_delete 34 = .ok (.iload_n 1, 1) := by decide +kernel
theorem dX5_delete_35 : decode cX5_delete 35 = .ok (.iload_n 3, 1) := by decide +kernel
theorem dX5_delete_36 : decode cX5_delete 36 = .ok (.invokevirtual 103, 3) := by decide +kernel
theorem dX5_delete_39 : decode cX5_delete 39 = .ok (.invokevirtual 66, 3) := by decide +kernel
theorem dX5_delete_42 : decode cX5_delete 42 = .ok (.ireturn, 1) := by decide +kernel
theorem dX5_deleteAt_0 : decode cX5_deleteAt 0 = .ok (.iload_n 1, 1) := by decide +kernel
theorem dX5_deleteAt_1 : decode cX5_deleteAt 1 = .ok (.invokestatic 70, 3) := by decide +kernel
theorem dX5_deleteAt_4 : decode cX5_deleteAt 4 = .ok (.ifCond .ne 7, 3) := by decide +kernel
theorem dX5_deleteAt_7 : decode cX5_deleteAt 7 = .ok (.sipush (-1001), 3) := by decide +kernel
theorem dX5_deleteAt_10 : decode cX5_deleteAt 10 = .ok (.ireturn, 1) := by decide +kernel
theorem dX5_deleteAt_11 : decode cX5_deleteAt 11 = .ok (.iload_n 2, 1) := by decide +kernel
theorem dX5_deleteAt_12 : decode cX5_deleteAt 12 = .ok (.i2l, 1) := by decide +kernel
theorem dX5_deleteAt_13 : decode cX5_deleteAt 13 = .ok (.lconst 0, 1) := by decide +kernel
theorem dX5_deleteAt_14 : decode cX5_deleteAt 14 = .ok (.aload_n 0, 1) := by decide +kernel
theorem dX5_deleteAt_15 : decode cX5_deleteAt 15 = .ok (.getfield 13, 3) := by decide +kernel
theorem dX5_deleteAt_18 : decode cX5_deleteAt 18 = .ok (.iload_n 1, 1) := by decide +kernel
theorem dX5_deleteAt_19 : decode cX5_deleteAt 19 = .ok (.iaload, 1) := by decide +kernel
theorem dX5_deleteAt_20 : decode cX5_deleteAt 20 = .ok (.iconst 1, 1) := by decide +kernel
theorem dX5_deleteAt_21 : decode cX5_deleteAt 21 = .ok (.isub, 1) := by decide +kernel
theorem dX5_deleteAt_22 : decode cX5_deleteAt 22 = .ok (.i2l, 1) := by decide +kernel
theorem dX5_deleteAt_23 : decode cX5_deleteAt 23 = .ok (.invokestatic 54, 3) := by decide +kernel
theorem dX5_deleteAt_26 : decode cX5_deleteAt 26 = .ok (.ifCond .ne 7, 3) := by decide +kernel
theorem dX5_deleteAt_29 : decode cX5_deleteAt 29 = .ok (.sipush (-1005), 3) := by decide +kernel
theorem dX5_deleteAt_32 : decode cX5_deleteAt 32 = .ok (.ireturn, 1) := by decide +kernel
theorem dX5_deleteAt_33 : decode cX5_deleteAt 33 = .ok (.aload_n 0, 1) := by decide +kernel
theorem dX5_deleteAt_34 : decode cX5_deleteAt 34 = .ok (.iconst 0, 1) := by decide +kernel
theorem dX5_deleteAt_35 : decode cX5_deleteAt 35 = .ok (.putfield 62, 3) := by decide +kernel
theorem dX5_deleteAt_38 : decode cX5_deleteAt 38 = .ok (.aload_n 0, 1) := by decide +kernel
theorem dX5_deleteAt_39 : decode cX5_deleteAt 39 = .ok (.iload_n 1, 1) := by decide +kernel
theorem dX5_deleteAt_40 : decode cX5_deleteAt 40 = .ok (.iload_n 2, 1) := by decide +kernel
theorem dX5_deleteAt_41 : decode cX5_deleteAt 41 = .ok (.iload_n 2, 1) := by decide +kernel
theorem dX5_deleteAt_42 : decode cX5_deleteAt 42 = .ok (.iconst 1, 1) := by decide +kernel
theorem dX5_deleteAt_43 : decode cX5_deleteAt 43 = .ok (.iadd, 1) := by decide +kernel
theorem dX5_deleteAt_44 : decode cX5_deleteAt 44 = .ok (.invokevirtual 66, 3) := by decide +kernel
theorem dX5_deleteAt_47 : decode cX5_deleteAt 47 = .ok (.ireturn, 1) := by decide +kernel
theorem dX5_replace_0 : decode cX5_replace 0 = .ok (.iload_n 1, 1) := by decide +kernel
theorem dX5_replace_1 : decode cX5_replace 1 = .ok (.invokestatic 70, 3) := by decide +kernel
theorem dX5_replace_4 : decode cX5_replace 4 = .ok (.ifCond .eq 11, 3) := by decide +kernel
theorem dX5_replace_7 : decode cX5_replace 7 = .ok (.iload 4, 2) := by decide +kernel
theorem dX5_replace_9 : decode cX5_replace 9 = .ok (.invokestatic 87, 3) := by decide +kernel
theorem dX5_replace_12 : decode cX5_replace 12 = .ok (.ifCond .ne 7, 3) := by decide +kernel
theorem dX5_replace_15 : decode cX5_replace 15 = .ok (.sipush (-1001), 3) := by decide +kernel
theorem dX5_replace_18 : decode cX5_replace 18 = .ok (.ireturn, 1) := by decide +kernel
theorem dX5_replace_19 : decode cX5_replace 19 = .ok (.aload_n 0, 1) := by decide +kernel
theorem dX5_replace_20 : decode cX5_replace 20 = .ok (.getfield 19, 3) := by decide +kernel
theorem dX5_replace_23 : decode cX5_replace 23 = .ok (.iload 4, 2) := by decide +kernel
theorem dX5_replace_25 : decode cX5_replace 25 = .ok (.iaload, 1) := by decide +kernel
theorem dX5_replace_26 : decode cX5_replace 26 = .ok (.ifCond .ge 7, 3) := by decide +kernel
theorem dX5_replace_29 : decode cX5_replace 29 = .ok (.sipush (-1003), 3) := by decide +kernel
theorem dX5_replace_32 : decode cX5_replace 32 = .ok (.ireturn, 1) := by decide +kernel
theorem dX5_replace_33 : decode cX5_replace 33 = .ok (.aload_n 0, 1) := by decide +kernel
theorem dX5_replace_34 : decode cX5_replace 34 = .ok (.iload_n 1, 1) := by decide +kernel
theorem dX5_replace_35 : decode cX5_replace 35 = .ok (.iload_n 2, 1) := by decide +kernel
theorem dX5_replace_36 : decode cX5_replace 36 = .ok (.iload_n 3, 1) := by decide +kernel
theorem dX5_replace_37 : decode cX5_replace 37 = .ok (.invokevirtual 99, 3) := by decide +kernel
theorem dX5_replace_40 : decode cX5_replace 40 = .ok (.ifCond .ne 7, 3) := by decide +kernel
theorem dX5_replace_43 : decode cX5_replace 43 = .ok (.sipush (-1005), 3) := by decide +kernel
theorem dX5_replace_46 : decode cX5_replace 46 = .ok (.ireturn, 1) := by decide +kernel
theorem dX5_replace_47 : decode cX5_replace 47 = .ok (.aload_n 0, 1) := by decide +kernel
theorem dX5_replace_48 : decode cX5_replace 48 = .ok (.iload 4, 2) := by decide +kernel
theorem dX5_replace_50 : decode cX5_replace 50 = .ok (.invokevirtual 90, 3) := by decide +kernel
theorem dX5_replace_53 : decode cX5_replace 53 = .ok (.aload_n 0, 1) := by decide +kernel
theorem dX5_replace_54 : decode cX5_replace 54 = .ok (.iload_n 1, 1) := by decide +kernel
theorem dX5_replace_55 : decode cX5_replace 55 = .ok (.iload_n 2, 1) := by decide +kernel
theorem dX5_replace_56 : decode cX5_replace 56 = .ok (.aload_n 0, 1) := by decide +kernel
theorem dX5_replace_57 : decode cX5_replace 57 = .ok (.iload_n 1, 1) := by decide +kernel
theorem dX5_replace_58 : decode cX5_replace 58 = .ok (.iload_n 3, 1) := by decide +kernel
theorem dX5_replace_59 : decode cX5_replace 59 = .ok (.invokevirtual 103, 3) := by decide +kernel
theorem dX5_replace_62 : decode cX5_replace 62 = .ok (.invokevirtual 66, 3) := by decide +kernel
theorem dX5_replace_65 : decode cX5_replace 65 = .ok (.ireturn, 1) := by decide +kernel
theorem dX5_reverse_0 : decode cX5_reverse 0 = .ok (.iload_n 1, 1) := by decide +kernel
theorem dX5_reverse_1 : decode cX5_reverse 1 = .ok (.invokestatic 70, 3) := by decide +kernel
theorem dX5_reverse_4 : decode cX5_reverse 4 = .ok (.ifCond .ne 7, 3) := by decide +kernel
theorem dX5_reverse_7 : decode cX5_reverse 7 = .ok (.sipush (-1001), 3) := by decide +kernel
theorem dX5_reverse_10 : decode cX5_reverse 10 = .ok (.ireturn, 1) := by decide +kernel
theorem dX5_reverse_11 : decode cX5_reverse 11 = .ok (.aload_n 0, 1) := by decide +kernel
theorem dX5_reverse_12 : decode cX5_reverse 12 = .ok (.getfield 13, 3) := by decide +kernel
theorem dX5_reverse_15 : decode cX5_reverse 15 = .ok (.iload_n 1, 1) := by decide +kernel
theorem dX5_reverse_16 : decode cX5_reverse 16 = .ok (.iaload, 1) := by decide +kernel
theorem dX5_reverse_17 : decode cX5_reverse 17 = .ok (.istore_n 2, 1) := by decide +kernel
theorem dX5_reverse_18 : decode cX5_reverse 18 = .ok (.iconst 0, 1) := by decide +kernel
theorem dX5_reverse_19 : decode cX5_reverse 19 = .ok (.istore_n 3, 1) := by decide +kernel
theorem dX5_reverse_20 : decode cX5_reverse 20 = .ok (.iload_n 3, 1) := by decide +kernel
theorem dX5_reverse_21 : decode cX5_reverse 21 = .ok (.iload_n 2, 1) := by decide +kernel
theorem dX5_reverse_22 : decode cX5_reverse 22 = .ok (.if_icmp .ge 31, 3) := by decide +kernel
theorem dX5_reverse_25 : decode cX5_reverse 25 = .ok (.aload_n 0, 1) := by decide +kernel
theorem dX5_reverse_26 : decode cX5_reverse 26 = .ok (.getfield 22, 3) := by decide +kernel
theorem dX5_reverse_29 : decode cX5_reverse 29 = .ok (.iload_n 3, 1) := by decide +kernel
theorem dX5_reverse_30 : decode cX5_reverse 30 = .ok (.aload_n 0, 1) := by decide +kernel
theorem dX5_reverse_31 : decode cX5_reverse 31 = .ok (.getfield 7, 3) := by decide +kernel
theorem dX5_reverse_34 : decode cX5_reverse 34 = .ok (.sipush 200, 3) := by decide +kernel
theorem dX5_reverse_37 : decode cX5_reverse 37 = .ok (.iload_n 1, 1) := by decide +kernel
theorem dX5_reverse_38 : decode cX5_reverse 38 = .ok (.imul, 1) := by decide +kernel
theorem dX5_reverse_39 : decode cX5_reverse 39 = .ok (.iload_n 2, 1) := by decide +kernel
theorem dX5_reverse_40 : decode cX5_reverse 40 = .ok (.iadd, 1) := by decide +kernel
theorem dX5_reverse_41 : decode cX5_reverse 41 = .ok (.iconst 1, 1) := by decide +kernel
theorem dX5_reverse_42 : decode cX5_reverse 42 = .ok (.isub, 1) := by decide +kernel
theorem dX5_reverse_43 : decode cX5_reverse 43 = .ok (.iload_n 3, 1) := by decide +kernel
theorem dX5_reverse_44 : decode cX5_reverse 44 = .ok (.isub, 1) := by decide +kernel
theorem dX5_reverse_45 : decode cX5_reverse 45 = .ok (.iaload, 1) := by decide +kernel
theorem dX5_reverse_46 : decode cX5_reverse 46 = .ok (.iastore, 1) := by decide +kernel
theorem dX5_reverse_47 : decode cX5_reverse 47 = .ok (.iinc 3 1, 3) := by decide +kernel
theorem dX5_reverse_50 : decode cX5_reverse 50 = .ok (.goto (-30), 3) := by decide +kernel
theorem dX5_reverse_53 : decode cX5_reverse 53 = .ok (.iconst 0, 1) := by decide +kernel
theorem dX5_reverse_54 : decode cX5_reverse 54 = .ok (.istore_n 3, 1) := by decide +kernel
theorem dX5_reverse_55 : decode cX5_reverse 55 = .ok (.iload_n 3, 1) := by decide +kernel
theorem dX5_reverse_56 : decode cX5_reverse 56 = .ok (.iload_n 2, 1) := by decide +kernel
theorem dX5_reverse_57 : decode cX5_reverse 57 = .ok (.if_icmp .ge 27, 3) := by decide +kernel
theorem dX5_reverse_60 : decode cX5_reverse 60 = .ok (.aload_n 0, 1) := by decide +kernel
theorem dX5_reverse_61 : decode cX5_reverse 61 = .ok (.getfield 7, 3) := by decide +kernel
theorem dX5_reverse_64 : decode cX5_reverse 64 = .ok (.sipush 200, 3) := by decide +kernel
theorem dX5_reverse_67 : decode cX5_reverse 67 = .ok (.iload_n 1, 1) := by decide +kernel
theorem dX5_reverse_68 : decode cX5_reverse 68 = .ok (.imul, 1) := by decide +kernel
theorem dX5_reverse_69 : decode cX5_reverse 69 = .ok (.iload_n 3, 1) := by decide +kernel
theorem dX5_reverse_70 : decode cX5_reverse 70 = .ok (.iadd, 1) := by decide +kernel
theorem dX5_reverse_71 : decode cX5_reverse 71 = .ok (.aload_n 0, 1) := by decide +kernel
theorem dX5_reverse_72 : decode cX5_reverse 72 = .ok (.getfield 22, 3) := by decide +kernel
theorem dX5_reverse_75 : decode cX5_reverse 75 = .ok (.iload_n 3, 1) := by decide +kernel
theorem dX5_reverse_76 : decode cX5_reverse 76 = .ok (.iaload, 1) := by decide +kernel
theorem dX5_reverse_77 : decode cX5_reverse 77 = .ok (.iastore, 1) := by decide +kernel
theorem dX5_reverse_78 : decode cX5_reverse 78 = .ok (.iinc 3 1, 3) := by decide +kernel
theorem dX5_reverse_81 : decode cX5_reverse 81 = .ok (.goto (-26), 3) := by decide +kernel
theorem dX5_reverse_84 : decode cX5_reverse 84 = .ok (.iload_n 2, 1) := by decide +kernel
theorem dX5_reverse_85 : decode cX5_reverse 85 = .ok (.ireturn, 1) := by decide +kernel
theorem dX5_put_0 : decode cX5_put 0 = .ok (.iload_n 1, 1) := by decide +kernel
theorem dX5_put_1 : decode cX5_put 1 = .ok (.invokestatic 70, 3) := by decide +kernel
theorem dX5_put_4 : decode cX5_put 4 = .ok (.ifCond .ne 7, 3) := by decide +kernel
theorem dX5_put_7 : decode cX5_put 7 = .ok (.sipush (-1001), 3) := by decide +kernel
theorem dX5_put_10 : decode cX5_put 10 = .ok (.ireturn, 1) := by decide +kernel
theorem dX5_put_11 : decode cX5_put 11 = .ok (.iload_n 3, 1) := by decide +kernel
theorem dX5_put_12 : decode cX5_put 12 = .ok (.invokestatic 74, 3) := by decide +kernel
theorem dX5_put_15 : decode cX5_put 15 = .ok (.ifCond .ne 7, 3) := by decide +kernel
theorem dX5_put_18 : decode cX5_put 18 = .ok (.sipush (-1002), 3) := by decide +kernel
theorem dX5_put_21 : decode cX5_put 21 = .ok (.ireturn, 1) := by decide +kernel
theorem dX5_put_22 : decode cX5_put 22 = .ok (.iload_n 2, 1) := by decide +kernel
theorem dX5_put_23 : decode cX5_put 23 = .ok (.i2l, 1) := by decide +kernel
theorem dX5_put_24 : decode cX5_put 24 = .ok (.lconst 0, 1) := by decide +kernel
theorem dX5_put_25 : decode cX5_put 25 = .ok (.aload_n 0, 1) := by decide +kernel
theorem dX5_put_26 : decode cX5_put 26 = .ok (.getfield 13, 3) := by decide +kernel
theorem dX5_put_29 : decode cX5_put 29 = .ok (.iload_n 1, 1) := by decide +kernel
theorem dX5_put_30 : decode cX5_put 30 = .ok (.iaload, 1) := by decide +kernel
theorem dX5_put_31 : decode cX5_put 31 = .ok (.iconst 1, 1) := by decide +kernel
theorem dX5_put_32 : decode cX5_put 32 = .ok (.isub, 1) := by decide +kernel
theorem dX5_put_33 : decode cX5_put 33 = .ok (.i2l, 1) := by decide +kernel
theorem dX5_put_34 : decode cX5_put 34 = .ok (.invokestatic 54, 3) := by decide +kernel
theorem dX5_put_37 : decode cX5_put 37 = .ok (.ifCond .ne 7, 3) := by decide +kernel
theorem dX5_put_40 : decode cX5_put 40 = .ok (.sipush (-1005), 3) := by decide +kernel
theorem dX5_put_43 : decode cX5_put 43 = .ok (.ireturn, 1) := by decide +kernel
theorem dX5_put_44 : decode cX5_put 44 = .ok (.aload_n 0, 1) := by decide +kernel
theorem dX5_put_45 : decode cX5_put 45 = .ok (.getfield 7, 3) := by decide +kernel
theorem dX5_put_48 : decode cX5_put 48 = .ok (.sipush 200, 3) := by decide +kernel
theorem dX5_put_51 : decode cX5_put 51 = .ok (.iload_n 1, 1) := by decide +kernel
theorem dX5_put_52 : decode cX5_put 52 = .ok (.imul, 1) := by decide +kernel
theorem dX5_put_53 : decode cX5_put 53 = .ok (.iload_n 2, 1) := by decide +kernel
theorem dX5_put_54 : decode cX5_put 54 = .ok (.iadd, 1) := by decide +kernel
theorem dX5_put_55 : decode cX5_put 55 = .ok (.iaload, 1) := by decide +kernel
theorem dX5_put_56 : decode cX5_put 56 = .ok (.istore 4, 2) := by decide +kernel
theorem dX5_put_58 : decode cX5_put 58 = .ok (.aload_n 0, 1) := by decide +kernel
theorem dX5_put_59 : decode cX5_put 59 = .ok (.getfield 7, 3) := by decide +kernel
theorem dX5_put_62 : decode cX5_put 62 = .ok (.sipush 200, 3) := by decide +kernel
theorem dX5_put_65 : decode cX5_put 65 = .ok (.iload_n 1, 1) := by decide +kernel
theorem dX5_put_66 : decode cX5_put 66 = .ok (.imul, 1) := by decide +kernel
theorem dX5_put_67 : decode cX5_put 67 = .ok (.iload_n 2, 1) := by decide +kernel
theorem dX5_put_68 : decode cX5_put 68 = .ok (.iadd, 1) := by decide +kernel
theorem dX5_put_69 : decode cX5_put 69 = .ok (.iload_n 3, 1) := by decide +kernel
theorem dX5_put_70 : decode cX5_put 70 = .ok (.iastore, 1) := by decide +kernel
theorem dX5_put_71 : decode cX5_put 71 = .ok (.iload 4, 2) := by decide +kernel
theorem dX5_put_73 : decode cX5_put 73 = .ok (.ireturn, 1) := by decide +kernel
theorem dX5_length_0 : decode cX5_length 0 = .ok (.iload_n 1, 1) := by decide +kernel
theorem dX5_length_1 : decode cX5_length 1 = .ok (.invokestatic 70, 3) := by decide +kernel
theorem dX5_length_4 : decode cX5_length 4 = .ok (.ifCond .ne 7, 3) := by decide +kernel
theorem dX5_length_7 : decode cX5_length 7 = .ok (.sipush (-1001), 3) := by decide +kernel
theorem dX5_length_10 : decode cX5_length 10 = .ok (.ireturn, 1) := by decide +kernel
theorem dX5_length_11 : decode cX5_length 11 = .ok (.iload_n 2, 1) := by decide +kernel
theorem dX5_length_12 : decode cX5_length 12 = .ok (.ifCond .ge 7, 3) := by decide +kernel
theorem dX5_length_15 : decode cX5_length 15 = .ok (.sipush (-1004), 3) := by decide +kernel
theorem dX5_length_18 : decode cX5_length 18 = .ok (.ireturn, 1) := by decide +kernel
theorem dX5_length_19 : decode cX5_length 19 = .ok (.iload_n 2, 1) := by decide +kernel
theorem dX5_length_20 : decode cX5_length 20 = .ok (.sipush 200, 3) := by decide +kernel
theorem dX5_length_23 : decode cX5_length 23 = .ok (.if_icmp .le 7, 3) := by decide +kernel
theorem dX5_length_26 : decode cX5_length 26 = .ok (.sipush (-1007), 3) := by decide +kernel
theorem dX5_length_29 : decode cX5_length 29 = .ok (.ireturn, 1) := by decide +kernel
theorem dX5_length_30 : decode cX5_length 30 = .ok (.aload_n 0, 1) := by decide +kernel
theorem dX5_length_31 : decode cX5_length 31 = .ok (.getfield 13, 3) := by decide +kernel
theorem dX5_length_34 : decode cX5_length 34 = .ok (.iload_n 1, 1) := by decide +kernel
theorem dX5_length_35 : decode cX5_length 35 = .ok (.iaload, 1) := by decide +kernel
theorem dX5_length_36 : decode cX5_length 36 = .ok (.istore_n 3, 1) := by decide +kernel
theorem dX5_length_37 : decode cX5_length 37 = .ok (.iload_n 3, 1) := by decide +kernel
theorem dX5_length_38 : decode cX5_length 38 = .ok (.istore 4, 2) := by decide +kernel
theorem dX5_length_40 : decode cX5_length 40 = .ok (.iload 4, 2) := by decide +kernel
theorem dX5_length_42 : decode cX5_length 42 = .ok (.iload_n 2, 1) := by decide +kernel
theorem dX5_length_43 : decode cX5_length 43 = .ok (.if_icmp .ge 23, 3) := by decide +kernel
theorem dX5_length_46 : decode cX5_length 46 = .ok (.aload_n 0, 1) := by decide +kernel
theorem dX5_length_47 : decode cX5_length 47 = .ok (.getfield 7, 3) := by decide +kernel
theorem dX5_length_50 : decode cX5_length 50 = .ok (.sipush 200, 3) := by decide +kernel
theorem dX5_length_53 : decode cX5_length 53 = .ok (.iload_n 1, 1) := by decide +kernel
theorem dX5_length_54 : decode cX5_length 54 = .ok (.imul, 1) := by decide +kernel
theorem dX5_length_55 : decode cX5_length 55 = .ok (.iload 4, 2) := by decide +kernel
theorem dX5_length_57 : decode cX5_length 57 = .ok (.iadd, 1) := by decide +kernel
theorem dX5_length_58 : decode cX5_length 58 = .ok (.iconst 0, 1) := by decide +kernel
theorem dX5_length_59 : decode cX5_length 59 = .ok (.iastore, 1) := by decide +kernel
theorem dX5_length_60 : decode cX5_length 60 = .ok (.iinc 4 1, 3) := by decide +kernel
theorem dX5_length_63 : decode cX5_length 63 = .ok (.goto (-23), 3) := by decide +kernel
theorem dX5_length_66 : decode cX5_length 66 = .ok (.aload_n 0, 1) := by decide +kernel
theorem dX5_length_67 : decode cX5_length 67 = .ok (.getfield 13, 3) := by decide +kernel
theorem dX5_length_70 : decode cX5_length 70 = .ok (.iload_n 1, 1) := by decide +kernel
theorem dX5_length_71 : decode cX5_length 71 = .ok (.iload_n 2, 1) := by decide +kernel
theorem dX5_length_72 : decode cX5_length 72 = .ok (.iastore, 1) := by decide +kernel
theorem dX5_length_73 : decode cX5_length 73 = .ok (.iload_n 3, 1) := by decide +kernel
theorem dX5_length_74 : decode cX5_length 74 = .ok (.ireturn, 1) := by decide +kernel
theorem dX5_at_0 : decode cX5_at 0 = .ok (.iload_n 1, 1) := by decide +kernel
theorem dX5_at_1 : decode cX5_at 1 = .ok (.invokestatic 70, 3) := by decide +kernel
theorem dX5_at_4 : decode cX5_at 4 = .ok (.ifCond .ne 7, 3) := by decide +kernel
theorem dX5_at_7 : decode cX5_at 7 = .ok (.sipush (-1001), 3) := by decide +kernel
theorem dX5_at_10 : decode cX5_at 10 = .ok (.ireturn, 1) := by decide +kernel
theorem dX5_at_11 : decode cX5_at 11 = .ok (.iload_n 2, 1) := by decide +kernel
theorem dX5_at_12 : decode cX5_at 12 = .ok (.i2l, 1) := by decide +kernel
theorem dX5_at_13 : decode cX5_at 13 = .ok (.lconst 0, 1) := by decide +kernel
theorem dX5_at_14 : decode cX5_at 14 = .ok (.aload_n 0, 1) := by decide +kernel
theorem dX5_at_15 : decode cX5_at 15 = .ok (.getfield 13, 3) := by decide +kernel
theorem dX5_at_18 : decode cX5_at 18 = .ok (.iload_n 1, 1) := by decide +kernel
theorem dX5_at_19 : decode cX5_at 19 = .ok (.iaload, 1) := by decide +kernel
theorem dX5_at_20 : decode cX5_at 20 = .ok (.iconst 1, 1) := by decide +kernel
theorem dX5_at_21 : decode cX5_at 21 = .ok (.isub, 1) := by decide +kernel
theorem dX5_at_22 : decode cX5_at 22 = .ok (.i2l, 1) := by decide +kernel
theorem dX5_at_23 : decode cX5_at 23 = .ok (.invokestatic 54, 3) := by decide +kernel
theorem dX5_at_26 : decode cX5_at 26 = .ok (.ifCond .eq 18, 3) := by decide +kernel
theorem dX5_at_29 : decode cX5_at 29 = .ok (.aload_n 0, 1) := by decide +kernel
theorem dX5_at_30 : decode cX5_at 30 = .ok (.getfield 7, 3) := by decide +kernel
theorem dX5_at_33 : decode cX5_at 33 = .ok (.sipush 200, 3) := by decide +kernel
theorem dX5_at_36 : decode cX5_at 36 = .ok (.iload_n 1, 1) := by decide +kernel
theorem dX5_at_37 : decode cX5_at 37 = .ok (.imul, 1) := by decide +kernel
theorem dX5_at_38 : decode cX5_at 38 = .ok (.iload_n 2, 1) := by decide +kernel
theorem dX5_at_39 : decode cX5_at 39 = .ok (.iadd, 1) := by decide +kernel
theorem dX5_at_40 : decode cX5_at 40 = .ok (.iaload, 1) := by decide +kernel
theorem dX5_at_41 : decode cX5_at 41 = .ok (.goto 6, 3) := by decide +kernel
theorem dX5_at_44 : decode cX5_at 44 = .ok (.sipush (-1005), 3) := by decide +kernel
theorem dX5_at_47 : decode cX5_at 47 = .ok (.ireturn, 1) := by decide +kernel
theorem dX5_size_0 : decode cX5_size 0 = .ok (.iload_n 1, 1) := by decide +kernel
theorem dX5_size_1 : decode cX5_size 1 = .ok (.invokestatic 70, 3) := by decide +kernel
theorem dX5_size_4 : decode cX5_size 4 = .ok (.ifCond .eq 12, 3) := by decide +kernel
theorem dX5_size_7 : decode cX5_size 7 = .ok (.aload_n 0, 1) := by decide +kernel
theorem dX5_size_8 : decode cX5_size 8 = .ok (.getfield 13, 3) := by decide +kernel
theorem dX5_size_11 : decode cX5_size 11 = .ok (.iload_n 1, 1) := by decide +kernel
theorem dX5_size_12 : decode cX5_size 12 = .ok (.iaload, 1) := by decide +kernel
theorem dX5_size_13 : decode cX5_size 13 = .ok (.goto 6, 3) := by decide +kernel
theorem dX5_size_16 : decode cX5_size 16 = .ok (.sipush (-1001), 3) := by decide +kernel
theorem dX5_size_19 : decode cX5_size 19 = .ok (.ireturn, 1) := by decide +kernel
theorem dX5_stands_0 : decode cX5_stands 0 = .ok (.iload 4, 2) := by decide +kernel
theorem dX5_stands_2 : decode cX5_stands 2 = .ok (.i2l, 1) := by decide +kernel
theorem dX5_stands_3 : decode cX5_stands 3 = .ok (.lconst 0, 1) := by decide +kernel
theorem dX5_stands_4 : decode cX5_stands 4 = .ok (.iload_n 3, 1) := by decide +kernel
theorem dX5_stands_5 : decode cX5_stands 5 = .ok (.aload_n 0, 1) := by decide +kernel
theorem dX5_stands_6 : decode cX5_stands 6 = .ok (.getfield 62, 3) := by decide +kernel
theorem dX5_stands_9 : decode cX5_stands 9 = .ok (.isub, 1) := by decide +kernel
theorem dX5_stands_10 : decode cX5_stands 10 = .ok (.i2l, 1) := by decide +kernel
theorem dX5_stands_11 : decode cX5_stands 11 = .ok (.invokestatic 54, 3) := by decide +kernel
theorem dX5_stands_14 : decode cX5_stands 14 = .ok (.istore 5, 2) := by decide +kernel
theorem dX5_stands_16 : decode cX5_stands 16 = .ok (.iconst 0, 1) := by decide +kernel
theorem dX5_stands_17 : decode cX5_stands 17 = .ok (.istore 6, 2) := by decide +kernel
theorem dX5_stands_19 : decode cX5_stands 19 = .ok (.iload 6, 2) := by decide +kernel
theorem dX5_stands_21 : decode cX5_stands 21 = .ok (.aload_n 0, 1) := by decide +kernel
theorem dX5_stands_22 : decode cX5_stands 22 = .ok (.getfield 62, 3) := by decide +kernel
theorem dX5_stands_25 : decode cX5_stands 25 = .ok (.if_icmp .ge 40, 3) := by decide +kernel
theorem dX5_stands_28 : decode cX5_stands 28 = .ok (.iload 5, 2) := by decide +kernel
theorem dX5_stands_30 : decode cX5_stands 30 = .ok (.ifCond .eq 35, 3) := by decide +kernel
theorem dX5_stands_33 : decode cX5_stands 33 = .ok (.aload_n 1, 1) := by decide +kernel
theorem dX5_stands_34 : decode cX5_stands 34 = .ok (.iload_n 2, 1) := by decide +kernel
theorem dX5_stands_35 : decode cX5_stands 35 = .ok (.iload 4, 2) := by decide +kernel
theorem dX5_stands_37 : decode cX5_stands 37 = .ok (.iadd, 1) := by decide +kernel
theorem dX5_stands_38 : decode cX5_stands 38 = .ok (.iload 6, 2) := by decide +kernel
theorem dX5_stands_40 : decode cX5_stands 40 = .ok (.iadd, 1) := by decide +kernel
theorem dX5_stands_41 : decode cX5_stands 41 = .ok (.iaload, 1) := by decide +kernel
theorem dX5_stands_42 : decode cX5_stands 42 = .ok (.aload_n 0, 1) := by decide +kernel
theorem dX5_stands_43 : decode cX5_stands 43 = .ok (.getfield 22, 3) := by decide +kernel
theorem dX5_stands_46 : decode cX5_stands 46 = .ok (.iload 6, 2) := by decide +kernel
theorem dX5_stands_48 : decode cX5_stands 48 = .ok (.iaload, 1) := by decide +kernel
theorem dX5_stands_49 : decode cX5_stands 49 = .ok (.if_icmp .ne 7, 3) := by decide +kernel
theorem dX5_stands_52 : decode cX5_stands 52 = .ok (.iconst 1, 1) := by decide +kernel
theorem dX5_stands_53 : decode cX5_stands 53 = .ok (.goto 4, 3) := by decide +kernel
theorem dX5_stands_56 : decode cX5_stands 56 = .ok (.iconst 0, 1) := by decide +kernel
theorem dX5_stands_57 : decode cX5_stands 57 = .ok (.istore 5, 2) := by decide +kernel
theorem dX5_stands_59 : decode cX5_stands 59 = .ok (.iinc 6 1, 3) := by decide +kernel
theorem dX5_stands_62 : decode cX5_stands 62 = .ok (.goto (-43), 3) := by decide +kernel
theorem dX5_stands_65 : decode cX5_stands 65 = .ok (.iload 5, 2) := by decide +kernel
theorem dX5_stands_67 : decode cX5_stands 67 = .ok (.ireturn, 1) := by decide +kernel
theorem dX5_firstOf_0 : decode cX5_firstOf 0 = .ok (.iload 4, 2) := by decide +kernel
theorem dX5_firstOf_2 : decode cX5_firstOf 2 = .ok (.ifCond .ge 7, 3) := by decide +kernel
theorem dX5_firstOf_5 : decode cX5_firstOf 5 = .ok (.iconst 0, 1) := by decide +kernel
theorem dX5_firstOf_6 : decode cX5_firstOf 6 = .ok (.goto 15, 3) := by decide +kernel
theorem dX5_firstOf_9 : decode cX5_firstOf 9 = .ok (.iload 4, 2) := by decide +kernel
theorem dX5_firstOf_11 : decode cX5_firstOf 11 = .ok (.iload_n 3, 1) := by decide +kernel
theorem dX5_firstOf_12 : decode cX5_firstOf 12 = .ok (.if_icmp .le 7, 3) := by decide +kernel
theorem dX5_firstOf_15 : decode cX5_firstOf 15 = .ok (.iload_n 3, 1) := by decide +kernel
theorem dX5_firstOf_16 : decode cX5_firstOf 16 = .ok (.goto 5, 3) := by decide +kernel
theorem dX5_firstOf_19 : decode cX5_firstOf 19 = .ok (.iload 4, 2) := by decide +kernel
theorem dX5_firstOf_21 : decode cX5_firstOf 21 = .ok (.istore 5, 2) := by decide +kernel
theorem dX5_firstOf_23 : decode cX5_firstOf 23 = .ok (.iload 5, 2) := by decide +kernel
theorem dX5_firstOf_25 : decode cX5_firstOf 25 = .ok (.istore 6, 2) := by decide +kernel
theorem dX5_firstOf_27 : decode cX5_firstOf 27 = .ok (.iload 6, 2) := by decide +kernel
theorem dX5_firstOf_29 : decode cX5_firstOf 29 = .ok (.iload_n 3, 1) := by decide +kernel
theorem dX5_firstOf_30 : decode cX5_firstOf 30 = .ok (.if_icmp .gt 24, 3) := by decide +kernel
theorem dX5_firstOf_33 : decode cX5_firstOf 33 = .ok (.aload_n 0, 1) := by decide +kernel
theorem dX5_firstOf_34 : decode cX5_firstOf 34 = .ok (.aload_n 1, 1) := by decide +kernel
theorem dX5_firstOf_35 : decode cX5_firstOf 35 = .ok (.iload_n 2, 1) := by decide +kernel
theorem dX5_firstOf_36 : decode cX5_firstOf 36 = .ok (.iload_n 3, 1) := by decide +kernel
theorem dX5_firstOf_37 : decode cX5_firstOf 37 = .ok (.iload 6, 2) := by decide +kernel
theorem dX5_firstOf_39 : decode cX5_firstOf 39 = .ok (.invokevirtual 107, 3) := by decide +kernel
theorem dX5_firstOf_42 : decode cX5_firstOf 42 = .ok (.ifCond .eq 6, 3) := by decide +kernel
theorem dX5_firstOf_45 : decode cX5_firstOf 45 = .ok (.iload 6, 2) := by decide +kernel
theorem dX5_firstOf_47 : decode cX5_firstOf 47 = .ok (.ireturn, 1) := by decide +kernel
theorem dX5_firstOf_48 : decode cX5_firstOf 48 = .ok (.iinc 6 1, 3) := by decide +kernel
theorem dX5_firstOf_51 : decode cX5_firstOf 51 = .ok (.goto (-24), 3) := by decide +kernel
theorem dX5_firstOf_54 : decode cX5_firstOf 54 = .ok (.iconst (-1), 1) := by decide +kernel
theorem dX5_firstOf_55 : decode cX5_firstOf 55 = .ok (.ireturn, 1) := by decide +kernel
theorem dX5_lastOf_0 : decode cX5_lastOf 0 = .ok (.iload 4, 2) := by decide +kernel
theorem dX5_lastOf_2 : decode cX5_lastOf 2 = .ok (.iload_n 3, 1) := by decide +kernel
theorem dX5_lastOf_3 : decode cX5_lastOf 3 = .ok (.if_icmp .le 7, 3) := by decide +kernel
theorem dX5_lastOf_6 : decode cX5_lastOf 6 = .ok (.iload_n 3, 1) := by decide +kernel
theorem dX5_lastOf_7 : decode cX5_lastOf 7 = .ok (.goto 5, 3) := by decide +kernel
theorem dX5_lastOf_10 : decode cX5_lastOf 10 = .ok (.iload 4, 2) := by decide +kernel
theorem dX5_lastOf_12 : decode cX5_lastOf 12 = .ok (.istore 5, 2) := by decide +kernel
theorem dX5_lastOf_14 : decode cX5_lastOf 14 = .ok (.iload 5, 2) := by decide +kernel
theorem dX5_lastOf_16 : decode cX5_lastOf 16 = .ok (.ifCond .lt 24, 3) := by decide +kernel
theorem dX5_lastOf_19 : decode cX5_lastOf 19 = .ok (.aload_n 0, 1) := by decide +kernel
theorem dX5_lastOf_20 : decode cX5_lastOf 20 = .ok (.aload_n 1, 1) := by decide +kernel
theorem dX5_lastOf_21 : decode cX5_lastOf 21 = .ok (.iload_n 2, 1) := by decide +kernel
theorem dX5_lastOf_22 : decode cX5_lastOf 22 = .ok (.iload_n 3, 1) := by decide +kernel
theorem dX5_lastOf_23 : decode cX5_lastOf 23 = .ok (.iload 5, 2) := by decide +kernel
theorem dX5_lastOf_25 : decode cX5_lastOf 25 = .ok (.invokevirtual 107, 3) := by decide +kernel
theorem dX5_lastOf_28 : decode cX5_lastOf 28 = .ok (.ifCond .eq 6, 3) := by decide +kernel
theorem dX5_lastOf_31 : decode cX5_lastOf 31 = .ok (.iload 5, 2) := by decide +kernel
theorem dX5_lastOf_33 : decode cX5_lastOf 33 = .ok (.ireturn, 1) := by decide +kernel
theorem dX5_lastOf_34 : decode cX5_lastOf 34 = .ok (.iinc 5 (-1), 3) := by decide +kernel
theorem dX5_lastOf_37 : decode cX5_lastOf 37 = .ok (.goto (-23), 3) := by decide +kernel
theorem dX5_lastOf_40 : decode cX5_lastOf 40 = .ok (.iconst (-1), 1) := by decide +kernel
theorem dX5_lastOf_41 : decode cX5_lastOf 41 = .ok (.ireturn, 1) := by decide +kernel
theorem dX5_orderOf_0 : decode cX5_orderOf 0 = .ok (.iconst 0, 1) := by decide +kernel
theorem dX5_orderOf_1 : decode cX5_orderOf 1 = .ok (.istore 5, 2) := by decide +kernel
theorem dX5_orderOf_3 : decode cX5_orderOf 3 = .ok (.iload 5, 2) := by decide +kernel
theorem dX5_orderOf_5 : decode cX5_orderOf 5 = .ok (.iload_n 2, 1) := by decide +kernel
theorem dX5_orderOf_6 : decode cX5_orderOf 6 = .ok (.if_icmp .ge 45, 3) := by decide +kernel
theorem dX5_orderOf_9 : decode cX5_orderOf 9 = .ok (.iload 5, 2) := by decide +kernel
theorem dX5_orderOf_11 : decode cX5_orderOf 11 = .ok (.iload 4, 2) := by decide +kernel
theorem dX5_orderOf_13 : decode cX5_orderOf 13 = .ok (.if_icmp .ge 38, 3) := by decide +kernel
theorem dX5_orderOf_16 : decode cX5_orderOf 16 = .ok (.aload_n 0, 1) := by decide +kernel
theorem dX5_orderOf_17 : decode cX5_orderOf 17 = .ok (.iload_n 1, 1) := by decide +kernel
theorem dX5_orderOf_18 : decode cX5_orderOf 18 = .ok (.iload 5, 2) := by decide +kernel
theorem dX5_orderOf_20 : decode cX5_orderOf 20 = .ok (.iadd, 1) := by decide +kernel
theorem dX5_orderOf_21 : decode cX5_orderOf 21 = .ok (.iaload, 1) := by decide +kernel
theorem dX5_orderOf_22 : decode cX5_orderOf 22 = .ok (.aload_n 0, 1) := by decide +kernel
theorem dX5_orderOf_23 : decode cX5_orderOf 23 = .ok (.iload_n 3, 1) := by decide +kernel
theorem dX5_orderOf_24 : decode cX5_orderOf 24 = .ok (.iload 5, 2) := by decide +kernel
theorem dX5_orderOf_26 : decode cX5_orderOf 26 = .ok (.iadd, 1) := by decide +kernel
theorem dX5_orderOf_27 : decode cX5_orderOf 27 = .ok (.iaload, 1) := by decide +kernel
theorem dX5_orderOf_28 : decode cX5_orderOf 28 = .ok (.if_icmp .eq 17, 3) := by decide +kernel
theorem dX5_orderOf_31 : decode cX5_orderOf 31 = .ok (.aload_n 0, 1) := by decide +kernel
theorem dX5_orderOf_32 : decode cX5_orderOf 32 = .ok (.iload_n 1, 1) := by decide +kernel
theorem dX5_orderOf_33 : decode cX5_orderOf 33 = .ok (.iload 5, 2) := by decide +kernel
theorem dX5_orderOf_35 : decode cX5_orderOf 35 = .ok (.iadd, 1) := by decide +kernel
theorem dX5_orderOf_36 : decode cX5_orderOf 36 = .ok (.iaload, 1) := by decide +kernel
theorem dX5_orderOf_37 : decode cX5_orderOf 37 = .ok (.aload_n 0, 1) := by decide +kernel
theorem dX5_orderOf_38 : decode cX5_orderOf 38 = .ok (.iload_n 3, 1) := by decide +kernel
theorem dX5_orderOf_39 : decode cX5_orderOf 39 = .ok (.iload 5, 2) := by decide +kernel
theorem dX5_orderOf_41 : decode cX5_orderOf 41 = .ok (.iadd, 1) := by decide +kernel
theorem dX5_orderOf_42 : decode cX5_orderOf 42 = .ok (.iaload, 1) := by decide +kernel
theorem dX5_orderOf_43 : decode cX5_orderOf 43 = .ok (.isub, 1) := by decide +kernel
theorem dX5_orderOf_44 : decode cX5_orderOf 44 = .ok (.ireturn, 1) := by decide +kernel
theorem dX5_orderOf_45 : decode cX5_orderOf 45 = .ok (.iinc 5 1, 3) := by decide +kernel
theorem dX5_orderOf_48 : decode cX5_orderOf 48 = .ok (.goto (-45), 3) := by decide +kernel
theorem dX5_orderOf_51 : decode cX5_orderOf 51 = .ok (.iload_n 2, 1) := by decide +kernel
theorem dX5_orderOf_52 : decode cX5_orderOf 52 = .ok (.iload 4, 2) := by decide +kernel
theorem dX5_orderOf_54 : decode cX5_orderOf 54 = .ok (.isub, 1) := by decide +kernel
theorem dX5_orderOf_55 : decode cX5_orderOf 55 = .ok (.ireturn, 1) := by decide +kernel
theorem dX5_first_0 : decode cX5_first 0 = .ok (.iload_n 1, 1) := by decide +kernel
theorem dX5_first_1 : decode cX5_first 1 = .ok (.invokestatic 70, 3) := by decide +kernel
theorem dX5_first_4 : decode cX5_first 4 = .ok (.ifCond .eq 10, 3) := by decide +kernel
theorem dX5_first_7 : decode cX5_first 7 = .ok (.iload_n 2, 1) := by decide +kernel
theorem dX5_first_8 : decode cX5_first 8 = .ok (.invokestatic 87, 3) := by decide +kernel
theorem dX5_first_11 : decode cX5_first 11 = .ok (.ifCond .ne 7, 3) := by decide +kernel
theorem dX5_first_14 : decode cX5_first 14 = .ok (.sipush (-1001), 3) := by decide +kernel
theorem dX5_first_17 : decode cX5_first 17 = .ok (.ireturn, 1) := by decide +kernel
theorem dX5_first_18 : decode cX5_first 18 = .ok (.aload_n 0, 1) := by decide +kernel
theorem dX5_first_19 : decode cX5_first 19 = .ok (.getfield 19, 3) := by decide +kernel
theorem dX5_first_22 : decode cX5_first 22 = .ok (.iload_n 2, 1) := by decide +kernel
theorem dX5_first_23 : decode cX5_first 23 = .ok (.iaload, 1) := by decide +kernel
theorem dX5_first_24 : decode cX5_first 24 = .ok (.ifCond .ge 7, 3) := by decide +kernel
theorem dX5_first_27 : decode cX5_first 27 = .ok (.sipush (-1003), 3) := by decide +kernel
theorem dX5_first_30 : decode cX5_first 30 = .ok (.ireturn, 1) := by decide +kernel
theorem dX5_first_31 : decode cX5_first 31 = .ok (.aload_n 0, 1) := by decide +kernel
theorem dX5_first_32 : decode cX5_first 32 = .ok (.iload_n 2, 1) := by decide +kernel
theorem dX5_first_33 : decode cX5_first 33 = .ok (.invokevirtual 90, 3) := by decide +kernel
theorem dX5_first_36 : decode cX5_first 36 = .ok (.aload_n 0, 1) := by decide +kernel
theorem dX5_first_37 : decode cX5_first 37 = .ok (.aload_n 0, 1) := by decide +kernel
theorem dX5_first_38 : decode cX5_first 38 = .ok (.getfield 7, 3) := by decide +kernel
theorem dX5_first_41 : decode cX5_first 41 = .ok (.sipush 200, 3) := by decide +kernel
theorem dX5_first_44 : decode cX5_first 44 = .ok (.iload_n 1, 1) := by decide +kernel
theorem dX5_first_45 : decode cX5_first 45 = .ok (.imul, 1) := by decide +kernel
theorem dX5_first_46 : decode cX5_first 46 = .ok (.aload_n 0, 1) := by decide +kernel
theorem dX5_first_47 : decode cX5_first 47 = .ok (.getfield 13, 3) := by decide +kernel
theorem dX5_first_50 : decode cX5_first 50 = .ok (.iload_n 1, 1) := by decide +kernel
theorem dX5_first_51 : decode cX5_first 51 = .ok (.iaload, 1) := by decide +kernel
theorem dX5_first_52 : decode cX5_first 52 = .ok (.iload_n 3, 1) := by decide +kernel
theorem dX5_first_53 : decode cX5_first 53 = .ok (.invokevirtual 111, 3) := by decide +kernel
theorem dX5_first_56 : decode cX5_first 56 = .ok (.ireturn, 1) := by decide +kernel
theorem dX5_last_0 : decode cX5_last 0 = .ok (.iload_n 1, 1) := by decide +kernel
theorem dX5_last_1 : decode cX5_last 1 = .ok (.invokestatic 70, 3) := by decide +kernel
theorem dX5_last_4 : decode cX5_last 4 = .ok (.ifCond .eq 10, 3) := by decide +kernel
theorem dX5_last_7 : decode cX5_last 7 = .ok (.iload_n 2, 1) := by decide +kernel
theorem dX5_last_8 : decode cX5_last 8 = .ok (.invokestatic 87, 3) := by decide +kernel
theorem dX5_last_11 : decode cX5_last 11 = .ok (.ifCond .ne 7, 3) := by decide +kernel
theorem dX5_last_14 : decode cX5_last 14 = .ok (.sipush (-1001), 3) := by decide +kernel
theorem dX5_last_17 : decode cX5_last 17 = .ok (.ireturn, 1) := by decide +kernel
theorem dX5_last_18 : decode cX5_last 18 = .ok (.aload_n 0, 1) := by decide +kernel
theorem dX5_last_19 : decode cX5_last 19 = .ok (.getfield 19, 3) := by decide +kernel
theorem dX5_last_22 : decode cX5_last 22 = .ok (.iload_n 2, 1) := by decide +kernel
theorem dX5_last_23 : decode cX5_last 23 = .ok (.iaload, 1) := by decide +kernel
theorem dX5_last_24 : decode cX5_last 24 = .ok (.ifCond .ge 7, 3) := by decide +kernel
theorem dX5_last_27 : decode cX5_last 27 = .ok (.sipush (-1003), 3) := by decide +kernel
theorem dX5_last_30 : decode cX5_last 30 = .ok (.ireturn, 1) := by decide +kernel
theorem dX5_last_31 : decode cX5_last 31 = .ok (.aload_n 0, 1) := by decide +kernel
theorem dX5_last_32 : decode cX5_last 32 = .ok (.iload_n 2, 1) := by decide +kernel
theorem dX5_last_33 : decode cX5_last 33 = .ok (.invokevirtual 90, 3) := by decide +kernel
theorem dX5_last_36 : decode cX5_last 36 = .ok (.aload_n 0, 1) := by decide +kernel
theorem dX5_last_37 : decode cX5_last 37 = .ok (.aload_n 0, 1) := by decide +kernel
theorem dX5_last_38 : decode cX5_last 38 = .ok (.getfield 7, 3) := by decide +kernel
theorem dX5_last_41 : decode cX5_last 41 = .ok (.sipush 200, 3) := by decide +kernel
theorem dX5_last_44 : decode cX5_last 44 = .ok (.iload_n 1, 1) := by decide +kernel
theorem dX5_last_45 : decode cX5_last 45 = .ok (.imul, 1) := by decide +kernel
theorem dX5_last_46 : decode cX5_last 46 = .ok (.aload_n 0, 1) := by decide +kernel
theorem dX5_last_47 : decode cX5_last 47 = .ok (.getfield 13, 3) := by decide +kernel
theorem dX5_last_50 : decode cX5_last 50 = .ok (.iload_n 1, 1) := by decide +kernel
theorem dX5_last_51 : decode cX5_last 51 = .ok (.iaload, 1) := by decide +kernel
theorem dX5_last_52 : decode cX5_last 52 = .ok (.iload_n 3, 1) := by decide +kernel
theorem dX5_last_53 : decode cX5_last 53 = .ok (.invokevirtual 115, 3) := by decide +kernel
theorem dX5_last_56 : decode cX5_last 56 = .ok (.ireturn, 1) := by decide +kernel
theorem dX5_take_0 : decode cX5_take 0 = .ok (.iload_n 1, 1) := by decide +kernel
theorem dX5_take_1 : decode cX5_take 1 = .ok (.invokestatic 70, 3) := by decide +kernel
theorem dX5_take_4 : decode cX5_take 4 = .ok (.ifCond .eq 11, 3) := by decide +kernel
theorem dX5_take_7 : decode cX5_take 7 = .ok (.iload 4, 2) := by decide +kernel
theorem dX5_take_9 : decode cX5_take 9 = .ok (.invokestatic 87, 3) := by decide +kernel
theorem dX5_take_12 : decode cX5_take 12 = .ok (.ifCond .ne 7, 3) := by decide +kernel
theorem dX5_take_15 : decode cX5_take 15 = .ok (.sipush (-1001), 3) := by decide +kernel
theorem dX5_take_18 : decode cX5_take 18 = .ok (.ireturn, 1) := by decide +kernel
theorem dX5_take_19 : decode cX5_take 19 = .ok (.iload_n 2, 1) := by decide +kernel
theorem dX5_take_20 : decode cX5_take 20 = .ok (.ifCond .lt 18, 3) := by decide +kernel
theorem dX5_take_23 : decode cX5_take 23 = .ok (.iload_n 3, 1) := by decide +kernel
theorem dX5_take_24 : decode cX5_take 24 = .ok (.aload_n 0, 1) := by decide +kernel
theorem dX5_take_25 : decode cX5_take 25 = .ok (.getfield 13, 3) := by decide +kernel
theorem dX5_take_28 : decode cX5_take 28 = .ok (.iload_n 1, 1) := by decide +kernel
theorem dX5_take_29 : decode cX5_take 29 = .ok (.iaload, 1) := by decide +kernel
theorem dX5_take_30 : decode cX5_take 30 = .ok (.if_icmp .gt 8, 3) := by decide +kernel
theorem dX5_take_33 : decode cX5_take 33 = .ok (.iload_n 2, 1) := by decide +kernel
theorem dX5_take_34 : decode cX5_take 34 = .ok (.iload_n 3, 1) := by decide +kernel
theorem dX5_take_35 : decode cX5_take 35 = .ok (.if_icmp .le 7, 3) := by decide +kernel
theorem dX5_take_38 : decode cX5_take 38 = .ok (.sipush (-1005), 3) := by decide +kernel
theorem dX5_take_41 : decode cX5_take 41 = .ok (.ireturn, 1) := by decide +kernel
theorem dX5_take_42 : decode cX5_take 42 = .ok (.aload_n 0, 1) := by decide +kernel
theorem dX5_take_43 : decode cX5_take 43 = .ok (.iload_n 3, 1) := by decide +kernel
theorem dX5_take_44 : decode cX5_take 44 = .ok (.iload_n 2, 1) := by decide +kernel
theorem dX5_take_45 : decode cX5_take 45 = .ok (.isub, 1) := by decide +kernel
theorem dX5_take_46 : decode cX5_take 46 = .ok (.putfield 62, 3) := by decide +kernel
theorem dX5_take_49 : decode cX5_take 49 = .ok (.iload_n 2, 1) := by decide +kernel
theorem dX5_take_50 : decode cX5_take 50 = .ok (.istore 5, 2) := by decide +kernel
theorem dX5_take_52 : decode cX5_take 52 = .ok (.iload 5, 2) := by decide +kernel
theorem dX5_take_54 : decode cX5_take 54 = .ok (.iload_n 3, 1) := by decide +kernel
theorem dX5_take_55 : decode cX5_take 55 = .ok (.if_icmp .ge 31, 3) := by decide +kernel
theorem dX5_take_58 : decode cX5_take 58 = .ok (.aload_n 0, 1) := by decide +kernel
theorem dX5_take_59 : decode cX5_take 59 = .ok (.getfield 22, 3) := by decide +kernel
theorem dX5_take_62 : decode cX5_take 62 = .ok (.iload 5, 2) := by decide +kernel
theorem dX5_take_64 : decode cX5_take 64 = .ok (.iload_n 2, 1) := by decide +kernel
theorem dX5_take_65 : decode cX5_take 65 = .ok (.isub, 1) := by decide +kernel
theorem dX5_take_66 : decode cX5_take 66 = .ok (.aload_n 0, 1) := by decide +kernel
theorem dX5_take_67 : decode cX5_take 67 = .ok (.getfield 7, 3) := by decide +kernel
theorem dX5_take_70 : decode cX5_take 70 = .ok (.sipush 200, 3) := by decide +kernel
theorem dX5_take_73 : decode cX5_take 73 = .ok (.iload_n 1, 1) := by decide +kernel
theorem dX5_take_74 : decode cX5_take 74 = .ok (.imul, 1) := by decide +kernel
theorem dX5_take_75 : decode cX5_take 75 = .ok (.iload 5, 2) := by decide +kernel
theorem dX5_take_77 : decode cX5_take 77 = .ok (.iadd, 1) := by decide +kernel
theorem dX5_take_78 : decode cX5_take 78 = .ok (.iaload, 1) := by decide +kernel
theorem dX5_take_79 : decode cX5_take 79 = .ok (.iastore, 1) := by decide +kernel
theorem dX5_take_80 : decode cX5_take 80 = .ok (.iinc 5 1, 3) := by decide +kernel
theorem dX5_take_83 : decode cX5_take 83 = .ok (.goto (-31), 3) := by decide +kernel
theorem dX5_take_86 : decode cX5_take 86 = .ok (.aload_n 0, 1) := by decide +kernel
theorem dX5_take_87 : decode cX5_take 87 = .ok (.iload 4, 2) := by decide +kernel
theorem dX5_take_89 : decode cX5_take 89 = .ok (.invokevirtual 118, 3) := by decide +kernel
theorem dX5_take_92 : decode cX5_take 92 = .ok (.ireturn, 1) := by decide +kernel
theorem dX5_ahead_0 : decode cX5_ahead 0 = .ok (.iload_n 1, 1) := by decide +kernel
theorem dX5_ahead_1 : decode cX5_ahead 1 = .ok (.invokestatic 70, 3) := by decide +kernel
theorem dX5_ahead_4 : decode cX5_ahead 4 = .ok (.ifCond .eq 10, 3) := by decide +kernel
theorem dX5_ahead_7 : decode cX5_ahead 7 = .ok (.iload_n 2, 1) := by decide +kernel
theorem dX5_ahead_8 : decode cX5_ahead 8 = .ok (.invokestatic 70, 3) := by decide +kernel
theorem dX5_ahead_11 : decode cX5_ahead 11 = .ok (.ifCond .ne 7, 3) := by decide +kernel
theorem dX5_ahead_14 : decode cX5_ahead 14 = .ok (.sipush (-1001), 3) := by decide +kernel
theorem dX5_ahead_17 : decode cX5_ahead 17 = .ok (.ireturn, 1) := by decide +kernel
theorem dX5_ahead_18 : decode cX5_ahead 18 = .ok (.aload_n 0, 1) := by decide +kernel
theorem dX5_ahead_19 : decode cX5_ahead 19 = .ok (.getfield 7, 3) := by decide +kernel
theorem dX5_ahead_22 : decode cX5_ahead 22 = .ok (.sipush 200, 3) := by decide +kernel
theorem dX5_ahead_25 : decode cX5_ahead 25 = .ok (.iload_n 1, 1) := by decide +kernel
theorem dX5_ahead_26 : decode cX5_ahead 26 = .ok (.imul, 1) := by decide +kernel
theorem dX5_ahead_27 : decode cX5_ahead 27 = .ok (.aload_n 0, 1) := by decide +kernel
theorem dX5_ahead_28 : decode cX5_ahead 28 = .ok (.getfield 13, 3) := by decide +kernel
theorem dX5_ahead_31 : decode cX5_ahead 31 = .ok (.iload_n 1, 1) := by decide +kernel
theorem dX5_ahead_32 : decode cX5_ahead 32 = .ok (.iaload, 1) := by decide +kernel
theorem dX5_ahead_33 : decode cX5_ahead 33 = .ok (.sipush 200, 3) := by decide +kernel
theorem dX5_ahead_36 : decode cX5_ahead 36 = .ok (.iload_n 2, 1) := by decide +kernel
theorem dX5_ahead_37 : decode cX5_ahead 37 = .ok (.imul, 1) := by decide +kernel
theorem dX5_ahead_38 : decode cX5_ahead 38 = .ok (.aload_n 0, 1) := by decide +kernel
theorem dX5_ahead_39 : decode cX5_ahead 39 = .ok (.getfield 13, 3) := by decide +kernel
theorem dX5_ahead_42 : decode cX5_ahead 42 = .ok (.iload_n 2, 1) := by decide +kernel
theorem dX5_ahead_43 : decode cX5_ahead 43 = .ok (.iaload, 1) := by decide +kernel
theorem dX5_ahead_44 : decode cX5_ahead 44 = .ok (.invokestatic 121, 3) := by decide +kernel
theorem dX5_ahead_47 : decode cX5_ahead 47 = .ok (.istore_n 3, 1) := by decide +kernel
theorem dX5_ahead_48 : decode cX5_ahead 48 = .ok (.iload_n 3, 1) := by decide +kernel
theorem dX5_ahead_49 : decode cX5_ahead 49 = .ok (.ifCond .le 7, 3) := by decide +kernel
theorem dX5_ahead_52 : decode cX5_ahead 52 = .ok (.iconst 1, 1) := by decide +kernel
theorem dX5_ahead_53 : decode cX5_ahead 53 = .ok (.goto 12, 3) := by decide +kernel
theorem dX5_ahead_56 : decode cX5_ahead 56 = .ok (.iload_n 3, 1) := by decide +kernel
theorem dX5_ahead_57 : decode cX5_ahead 57 = .ok (.ifCond .ge 7, 3) := by decide +kernel
theorem dX5_ahead_60 : decode cX5_ahead 60 = .ok (.iconst (-1), 1) := by decide +kernel
theorem dX5_ahead_61 : decode cX5_ahead 61 = .ok (.goto 4, 3) := by decide +kernel
theorem dX5_ahead_64 : decode cX5_ahead 64 = .ok (.iconst 0, 1) := by decide +kernel
theorem dX5_ahead_65 : decode cX5_ahead 65 = .ok (.ireturn, 1) := by decide +kernel
theorem dX5_forget_0 : decode cX5_forget 0 = .ok (.iload_n 1, 1) := by decide +kernel
theorem dX5_forget_1 : decode cX5_forget 1 = .ok (.invokestatic 87, 3) := by decide +kernel
theorem dX5_forget_4 : decode cX5_forget 4 = .ok (.ifCond .ne 7, 3) := by decide +kernel
theorem dX5_forget_7 : decode cX5_forget 7 = .ok (.sipush (-1001), 3) := by decide +kernel
theorem dX5_forget_10 : decode cX5_forget 10 = .ok (.ireturn, 1) := by decide +kernel
theorem dX5_forget_11 : decode cX5_forget 11 = .ok (.aload_n 0, 1) := by decide +kernel
theorem dX5_forget_12 : decode cX5_forget 12 = .ok (.getfield 19, 3) := by decide +kernel
theorem dX5_forget_15 : decode cX5_forget 15 = .ok (.iload_n 1, 1) := by decide +kernel
theorem dX5_forget_16 : decode cX5_forget 16 = .ok (.iaload, 1) := by decide +kernel
theorem dX5_forget_17 : decode cX5_forget 17 = .ok (.ifCond .lt 7, 3) := by decide +kernel
theorem dX5_forget_20 : decode cX5_forget 20 = .ok (.iconst 1, 1) := by decide +kernel
theorem dX5_forget_21 : decode cX5_forget 21 = .ok (.goto 4, 3) := by decide +kernel
theorem dX5_forget_24 : decode cX5_forget 24 = .ok (.iconst 0, 1) := by decide +kernel
theorem dX5_forget_25 : decode cX5_forget 25 = .ok (.istore_n 2, 1) := by decide +kernel
theorem dX5_forget_26 : decode cX5_forget 26 = .ok (.aload_n 0, 1) := by decide +kernel
theorem dX5_forget_27 : decode cX5_forget 27 = .ok (.getfield 19, 3) := by decide +kernel
theorem dX5_forget_30 : decode cX5_forget 30 = .ok (.iload_n 1, 1) := by decide +kernel
theorem dX5_forget_31 : decode cX5_forget 31 = .ok (.iconst (-1), 1) := by decide +kernel
theorem dX5_forget_32 : decode cX5_forget 32 = .ok (.iastore, 1) := by decide +kernel
theorem dX5_forget_33 : decode cX5_forget 33 = .ok (.iload_n 2, 1) := by decide +kernel
theorem dX5_forget_34 : decode cX5_forget 34 = .ok (.ifCond .eq 7, 3) := by decide +kernel
theorem dX5_forget_37 : decode cX5_forget 37 = .ok (.iconst 1, 1) := by decide +kernel
theorem dX5_forget_38 : decode cX5_forget 38 = .ok (.goto 4, 3) := by decide +kernel
theorem dX5_forget_41 : decode cX5_forget 41 = .ok (.iconst 0, 1) := by decide +kernel
theorem dX5_forget_42 : decode cX5_forget 42 = .ok (.ireturn, 1) := by decide +kernel
theorem dX5_textSize_0 : decode cX5_textSize 0 = .ok (.iload_n 1, 1) := by decide +kernel
theorem dX5_textSize_1 : decode cX5_textSize 1 = .ok (.invokestatic 87, 3) := by decide +kernel
theorem dX5_textSize_4 : decode cX5_textSize 4 = .ok (.ifCond .eq 12, 3) := by decide +kernel
theorem dX5_textSize_7 : decode cX5_textSize 7 = .ok (.aload_n 0, 1) := by decide +kernel
theorem dX5_textSize_8 : decode cX5_textSize 8 = .ok (.getfield 19, 3) := by decide +kernel
theorem dX5_textSize_11 : decode cX5_textSize 11 = .ok (.iload_n 1, 1) := by decide +kernel
theorem dX5_textSize_12 : decode cX5_textSize 12 = .ok (.iaload, 1) := by decide +kernel
theorem dX5_textSize_13 : decode cX5_textSize 13 = .ok (.goto 6, 3) := by decide +kernel
theorem dX5_textSize_16 : decode cX5_textSize 16 = .ok (.sipush (-1001), 3) := by decide +kernel
theorem dX5_textSize_19 : decode cX5_textSize 19 = .ok (.ireturn, 1) := by decide +kernel
theorem dX5_signAt_0 : decode cX5_signAt 0 = .ok (.iload_n 1, 1) := by decide +kernel
theorem dX5_signAt_1 : decode cX5_signAt 1 = .ok (.invokestatic 87, 3) := by decide +kernel
theorem dX5_signAt_4 : decode cX5_signAt 4 = .ok (.ifCond .ne 7, 3) := by decide +kernel
theorem dX5_signAt_7 : decode cX5_signAt 7 = .ok (.sipush (-1001), 3) := by decide +kernel
theorem dX5_signAt_10 : decode cX5_signAt 10 = .ok (.ireturn, 1) := by decide +kernel
theorem dX5_signAt_11 : decode cX5_signAt 11 = .ok (.aload_n 0, 1) := by decide +kernel
theorem dX5_signAt_12 : decode cX5_signAt 12 = .ok (.getfield 19, 3) := by decide +kernel
theorem dX5_signAt_15 : decode cX5_signAt 15 = .ok (.iload_n 1, 1) := by decide +kernel
theorem dX5_signAt_16 : decode cX5_signAt 16 = .ok (.iaload, 1) := by decide +kernel
theorem dX5_signAt_17 : decode cX5_signAt 17 = .ok (.ifCond .ge 7, 3) := by decide +kernel
theorem dX5_signAt_20 : decode cX5_signAt 20 = .ok (.sipush (-1003), 3) := by decide +kernel
theorem dX5_signAt_23 : decode cX5_signAt 23 = .ok (.ireturn, 1) := by decide +kernel
theorem dX5_signAt_24 : decode cX5_signAt 24 = .ok (.iload_n 2, 1) := by decide +kernel
theorem dX5_signAt_25 : decode cX5_signAt 25 = .ok (.i2l, 1) := by decide +kernel
theorem dX5_signAt_26 : decode cX5_signAt 26 = .ok (.lconst 0, 1) := by decide +kernel
theorem dX5_signAt_27 : decode cX5_signAt 27 = .ok (.aload_n 0, 1) := by decide +kernel
theorem dX5_signAt_28 : decode cX5_signAt 28 = .ok (.getfield 19, 3) := by decide +kernel
theorem dX5_signAt_31 : decode cX5_signAt 31 = .ok (.iload_n 1, 1) := by decide +kernel
theorem dX5_signAt_32 : decode cX5_signAt 32 = .ok (.iaload, 1) := by decide +kernel
theorem dX5_signAt_33 : decode cX5_signAt 33 = .ok (.iconst 1, 1) := by decide +kernel
theorem dX5_signAt_34 : decode cX5_signAt 34 = .ok (.isub, 1) := by decide +kernel
theorem dX5_signAt_35 : decode cX5_signAt 35 = .ok (.i2l, 1) := by decide +kernel
theorem dX5_signAt_36 : decode cX5_signAt 36 = .ok (.invokestatic 54, 3) := by decide +kernel
theorem dX5_signAt_39 : decode cX5_signAt 39 = .ok (.ifCond .eq 18, 3) := by decide +kernel
theorem dX5_signAt_42 : decode cX5_signAt 42 = .ok (.aload_n 0, 1) := by decide +kernel
theorem dX5_signAt_43 : decode cX5_signAt 43 = .ok (.getfield 16, 3) := by decide +kernel
theorem dX5_signAt_46 : decode cX5_signAt 46 = .ok (.sipush 200, 3) := by decide +kernel
theorem dX5_signAt_49 : decode cX5_signAt 49 = .ok (.iload_n 1, 1) := by decide +kernel
theorem dX5_signAt_50 : decode cX5_signAt 50 = .ok (.imul, 1) := by decide +kernel
theorem dX5_signAt_51 : decode cX5_signAt 51 = .ok (.iload_n 2, 1) := by decide +kernel
theorem dX5_signAt_52 : decode cX5_signAt 52 = .ok (.iadd, 1) := by decide +kernel
theorem dX5_signAt_53 : decode cX5_signAt 53 = .ok (.iaload, 1) := by decide +kernel
theorem dX5_signAt_54 : decode cX5_signAt 54 = .ok (.goto 6, 3) := by decide +kernel
theorem dX5_signAt_57 : decode cX5_signAt 57 = .ok (.sipush (-1005), 3) := by decide +kernel
theorem dX5_signAt_60 : decode cX5_signAt 60 = .ok (.ireturn, 1) := by decide +kernel
theorem dX5_bars_0 : decode cX5_bars 0 = .ok (.iload_n 1, 1) := by decide +kernel
theorem dX5_bars_1 : decode cX5_bars 1 = .ok (.invokestatic 87, 3) := by decide +kernel
theorem dX5_bars_4 : decode cX5_bars 4 = .ok (.ifCond .ne 9, 3) := by decide +kernel
theorem dX5_bars_7 : decode cX5_bars 7 = .ok (.sipush (-1001), 3) := by decide +kernel
theorem dX5_bars_10 : decode cX5_bars 10 = .ok (.goto 32, 3) := by decide +kernel
theorem dX5_bars_13 : decode cX5_bars 13 = .ok (.iload_n 2, 1) := by decide +kernel
theorem dX5_bars_14 : decode cX5_bars 14 = .ok (.invokestatic 74, 3) := by decide +kernel
theorem dX5_bars_17 : decode cX5_bars 17 = .ok (.ifCond .ne 9, 3) := by decide +kernel
theorem dX5_bars_20 : decode cX5_bars 20 = .ok (.sipush (-1002), 3) := by decide +kernel
theorem dX5_bars_23 : decode cX5_bars 23 = .ok (.goto 19, 3) := by decide +kernel
theorem dX5_bars_26 : decode cX5_bars 26 = .ok (.aload_n 0, 1) := by decide +kernel
theorem dX5_bars_27 : decode cX5_bars 27 = .ok (.getfield 19, 3) := by decide +kernel
theorem dX5_bars_30 : decode cX5_bars 30 = .ok (.iload_n 1, 1) := by decide +kernel
theorem dX5_bars_31 : decode cX5_bars 31 = .ok (.iaload, 1) := by decide +kernel
theorem dX5_bars_32 : decode cX5_bars 32 = .ok (.ifCond .ge 9, 3) := by decide +kernel
theorem dX5_bars_35 : decode cX5_bars 35 = .ok (.sipush (-1003), 3) := by decide +kernel
theorem dX5_bars_38 : decode cX5_bars 38 = .ok (.goto 4, 3) := by decide +kernel
theorem dX5_bars_41 : decode cX5_bars 41 = .ok (.iconst 0, 1) := by decide +kernel
theorem dX5_bars_42 : decode cX5_bars 42 = .ok (.ireturn, 1) := by decide +kernel
theorem dX5_firstSign_0 : decode cX5_firstSign 0 = .ok (.aload_n 0, 1) := by decide +kernel
theorem dX5_firstSign_1 : decode cX5_firstSign 1 = .ok (.iload_n 1, 1) := by decide +kernel
theorem dX5_firstSign_2 : decode cX5_firstSign 2 = .ok (.iload_n 2, 1) := by decide +kernel
theorem dX5_firstSign_3 : decode cX5_firstSign 3 = .ok (.invokevirtual 125, 3) := by decide +kernel
theorem dX5_firstSign_6 : decode cX5_firstSign 6 = .ok (.istore 4, 2) := by decide +kernel
theorem dX5_firstSign_8 : decode cX5_firstSign 8 = .ok (.iload 4, 2) := by decide +kernel
theorem dX5_firstSign_10 : decode cX5_firstSign 10 = .ok (.ifCond .ge 6, 3) := by decide +kernel
theorem dX5_firstSign_13 : decode cX5_firstSign 13 = .ok (.iload 4, 2) := by decide +kernel
theorem dX5_firstSign_15 : decode cX5_firstSign 15 = .ok (.ireturn, 1) := by decide +kernel
theorem dX5_firstSign_16 : decode cX5_firstSign 16 = .ok (.aload_n 0, 1) := by decide +kernel
theorem dX5_firstSign_17 : decode cX5_firstSign 17 = .ok (.iload_n 2, 1) := by decide +kernel
theorem dX5_firstSign_18 : decode cX5_firstSign 18 = .ok (.invokevirtual 77, 3) := by decide +kernel
theorem dX5_firstSign_21 : decode cX5_firstSign 21 = .ok (.aload_n 0, 1) := by decide +kernel
theorem dX5_firstSign_22 : decode cX5_firstSign 22 = .ok (.aload_n 0, 1) := by decide +kernel
theorem dX5_firstSign_23 : decode cX5_firstSign 23 = .ok (.getfield 16, 3) := by decide +kernel
theorem dX5_firstSign_26 : decode cX5_firstSign 26 = .ok (.sipush 200, 3) := by decide +kernel
theorem dX5_firstSign_29 : decode cX5_firstSign 29 = .ok (.iload_n 1, 1) := by decide +kernel
theorem dX5_firstSign_30 : decode cX5_firstSign 30 = .ok (.imul, 1) := by decide +kernel
theorem dX5_firstSign_31 : decode cX5_firstSign 31 = .ok (.aload_n 0, 1) := by decide +kernel
theorem dX5_firstSign_32 : decode cX5_firstSign 32 = .ok (.getfield 19, 3) := by decide +kernel
theorem dX5_firstSign_35 : decode cX5_firstSign 35 = .ok (.iload_n 1, 1) := by decide +kernel
theorem dX5_firstSign_36 : decode cX5_firstSign 36 = .ok (.iaload, 1) := by decide +kernel
theorem dX5_firstSign_37 : decode cX5_firstSign 37 = .ok (.iload_n 3, 1) := by decide +kernel
theorem dX5_firstSign_38 : decode cX5_firstSign 38 = .ok (.invokevirtual 111, 3) := by decide +kernel
theorem dX5_firstSign_41 : decode cX5_firstSign 41 = .ok (.ireturn, 1) := by decide +kernel
theorem dX5_lastSign_0 : decode cX5_lastSign 0 = .ok (.aload_n 0, 1) := by decide +kernel
theorem dX5_lastSign_1 : decode cX5_lastSign 1 = .ok (.iload_n 1, 1) := by decide +kernel
theorem dX5_lastSign_2 : decode cX5_lastSign 2 = .ok (.iload_n 2, 1) := by decide +kernel
theorem dX5_lastSign_3 : decode cX5_lastSign 3 = .ok (.invokevirtual 125, 3) := by decide +kernel
theorem dX5_lastSign_6 : decode cX5_lastSign 6 = .ok (.istore 4, 2) := by decide +kernel
theorem dX5_lastSign_8 : decode cX5_lastSign 8 = .ok (.iload 4, 2) := by decide +kernel
theorem dX5_lastSign_10 : decode cX5_lastSign 10 = .ok (.ifCond .ge 6, 3) := by decide +kernel
theorem dX5_lastSign_13 : decode cX5_lastSign 13 = .ok (.iload 4, 2) := by decide +kernel
theorem dX5_lastSign_15 : decode cX5_lastSign 15 = .ok (.ireturn, 1) := by decide +kernel
theorem dX5_lastSign_16 : decode cX5_lastSign 16 = .ok (.aload_n 0, 1) := by decide +kernel
theorem dX5_lastSign_17 : decode cX5_lastSign 17 = .ok (.iload_n 2, 1) := by decide +kernel
theorem dX5_lastSign_18 : decode cX5_lastSign 18 = .ok (.invokevirtual 77, 3) := by decide +kernel
theorem dX5_lastSign_21 : decode cX5_lastSign 21 = .ok (.aload_n 0, 1) := by decide +kernel
theorem dX5_lastSign_22 : decode cX5_lastSign 22 = .ok (.aload_n 0, 1) := by decide +kernel
theorem dX5_lastSign_23 : decode cX5_lastSign 23 = .ok (.getfield 16, 3) := by decide +kernel
theorem dX5_lastSign_26 : decode cX5_lastSign 26 = .ok (.sipush 200, 3) := by decide +kernel
theorem dX5_lastSign_29 : decode cX5_lastSign 29 = .ok (.iload_n 1, 1) := by decide +kernel
theorem dX5_lastSign_30 : decode cX5_lastSign 30 = .ok (.imul, 1) := by decide +kernel
theorem dX5_lastSign_31 : decode cX5_lastSign 31 = .ok (.aload_n 0, 1) := by decide +kernel
theorem dX5_lastSign_32 : decode cX5_lastSign 32 = .ok (.getfield 19, 3) := by decide +kernel
theorem dX5_lastSign_35 : decode cX5_lastSign 35 = .ok (.iload_n 1, 1) := by decide +kernel
theorem dX5_lastSign_36 : decode cX5_lastSign 36 = .ok (.iaload, 1) := by decide +kernel
theorem dX5_lastSign_37 : decode cX5_lastSign 37 = .ok (.iload_n 3, 1) := by decide +kernel
theorem dX5_lastSign_38 : decode cX5_lastSign 38 = .ok (.invokevirtual 115, 3) := by decide +kernel
theorem dX5_lastSign_41 : decode cX5_lastSign 41 = .ok (.ireturn, 1) := by decide +kernel
theorem dX5_barsTwo_0 : decode cX5_barsTwo 0 = .ok (.iload_n 1, 1) := by decide +kernel
theorem dX5_barsTwo_1 : decode cX5_barsTwo 1 = .ok (.invokestatic 87, 3) := by decide +kernel
theorem dX5_barsTwo_4 : decode cX5_barsTwo 4 = .ok (.ifCond .eq 10, 3) := by decide +kernel
theorem dX5_barsTwo_7 : decode cX5_barsTwo 7 = .ok (.iload_n 2, 1) := by decide +kernel
theorem dX5_barsTwo_8 : decode cX5_barsTwo 8 = .ok (.invokestatic 87, 3) := by decide +kernel
theorem dX5_barsTwo_11 : decode cX5_barsTwo 11 = .ok (.ifCond .ne 9, 3) := by decide +kernel
theorem dX5_barsTwo_14 : decode cX5_barsTwo 14 = .ok (.sipush (-1001), 3) := by decide +kernel
theorem dX5_barsTwo_17 : decode cX5_barsTwo 17 = .ok (.goto 28, 3) := by decide +kernel
theorem dX5_barsTwo_20 : decode cX5_barsTwo 20 = .ok (.aload_n 0, 1) := by decide +kernel
theorem dX5_barsTwo_21 : decode cX5_barsTwo 21 = .ok (.getfield 19, 3) := by decide +kernel
theorem dX5_barsTwo_24 : decode cX5_barsTwo 24 = .ok (.iload_n 1, 1) := by decide +kernel
theorem dX5_barsTwo_25 : decode cX5_barsTwo 25 = .ok (.iaload, 1) := by decide +kernel
theorem dX5_barsTwo_26 : decode cX5_barsTwo 26 = .ok (.ifCond .lt 12, 3) := by decide +kernel
theorem dX5_barsTwo_29 : decode cX5_barsTwo 29 = .ok (.aload_n 0, 1) := by decide +kernel
theorem dX5_barsTwo_30 : decode cX5_barsTwo 30 = .ok (.getfield 19, 3) := by decide +kernel
theorem dX5_barsTwo_33 : decode cX5_barsTwo 33 = .ok (.iload_n 2, 1) := by decide +kernel
theorem dX5_barsTwo_34 : decode cX5_barsTwo 34 = .ok (.iaload, 1) := by decide +kernel
theorem dX5_barsTwo_35 : decode cX5_barsTwo 35 = .ok (.ifCond .ge 9, 3) := by decide +kernel
theorem dX5_barsTwo_38 : decode cX5_barsTwo 38 = .ok (.sipush (-1003), 3) := by decide +kernel
theorem dX5_barsTwo_41 : decode cX5_barsTwo 41 = .ok (.goto 4, 3) := by decide +kernel
theorem dX5_barsTwo_44 : decode cX5_barsTwo 44 = .ok (.iconst 0, 1) := by decide +kernel
theorem dX5_barsTwo_45 : decode cX5_barsTwo 45 = .ok (.ireturn, 1) := by decide +kernel
theorem dX5_firstText_0 : decode cX5_firstText 0 = .ok (.aload_n 0, 1) := by decide +kernel
theorem dX5_firstText_1 : decode cX5_firstText 1 = .ok (.iload_n 1, 1) := by decide +kernel
theorem dX5_firstText_2 : decode cX5_firstText 2 = .ok (.iload_n 2, 1) := by decide +kernel
theorem dX5_firstText_3 : decode cX5_firstText 3 = .ok (.invokevirtual 128, 3) := by decide +kernel
theorem dX5_firstText_6 : decode cX5_firstText 6 = .ok (.istore 4, 2) := by decide +kernel
theorem dX5_firstText_8 : decode cX5_firstText 8 = .ok (.iload 4, 2) := by decide +kernel
theorem dX5_firstText_10 : decode cX5_firstText 10 = .ok (.ifCond .ge 6, 3) := by decide +kernel
theorem dX5_firstText_13 : decode cX5_firstText 13 = .ok (.iload 4, 2) := by decide +kernel
theorem dX5_firstText_15 : decode cX5_firstText 15 = .ok (.ireturn, 1) := by decide +kernel
theorem dX5_firstText_16 : decode cX5_firstText 16 = .ok (.aload_n 0, 1) := by decide +kernel
theorem dX5_firstText_17 : decode cX5_firstText 17 = .ok (.iload_n 2, 1) := by decide +kernel
theorem dX5_firstText_18 : decode cX5_firstText 18 = .ok (.invokevirtual 90, 3) := by decide +kernel
theorem dX5_firstText_21 : decode cX5_firstText 21 = .ok (.aload_n 0, 1) := by decide +kernel
theorem dX5_firstText_22 : decode cX5_firstText 22 = .ok (.aload_n 0, 1) := by decide +kernel
theorem dX5_firstText_23 : decode cX5_firstText 23 = .ok (.getfield 16, 3) := by decide +kernel
theorem dX5_firstText_26 : decode cX5_firstText 26 = .ok (.sipush 200, 3) := by decide +kernel
theorem dX5_firstText_29 : decode cX5_firstText 29 = .ok (.iload_n 1, 1) := by decide +kernel
theorem dX5_firstText_30 : decode cX5_firstText 30 = .ok (.imul, 1) := by decide +kernel
theorem dX5_firstText_31 : decode cX5_firstText 31 = .ok (.aload_n 0, 1) := by decide +kernel
theorem dX5_firstText_32 : decode cX5_firstText 32 = .ok (.getfield 19, 3) := by decide +kernel
theorem dX5_firstText_35 : decode cX5_firstText 35 = .ok (.iload_n 1, 1) := by decide +kernel
theorem dX5_firstText_36 : decode cX5_firstText 36 = .ok (.iaload, 1) := by decide +kernel
theorem dX5_firstText_37 : decode cX5_firstText 37 = .ok (.iload_n 3, 1) := by decide +kernel
theorem dX5_firstText_38 : decode cX5_firstText 38 = .ok (.invokevirtual 111, 3) := by decide +kernel
theorem dX5_firstText_41 : decode cX5_firstText 41 = .ok (.ireturn, 1) := by decide +kernel
theorem dX5_lastText_0 : decode cX5_lastText 0 = .ok (.aload_n 0, 1) := by decide +kernel
theorem dX5_lastText_1 : decode cX5_lastText 1 = .ok (.iload_n 1, 1) := by decide +kernel
theorem dX5_lastText_2 : decode cX5_lastText 2 = .ok (.iload_n 2, 1) := by decide +kernel
theorem dX5_lastText_3 : decode cX5_lastText 3 = .ok (.invokevirtual 128, 3) := by decide +kernel
theorem dX5_lastText_6 : decode cX5_lastText 6 = .ok (.istore 4, 2) := by decide +kernel
theorem dX5_lastText_8 : decode cX5_lastText 8 = .ok (.iload 4, 2) := by decide +kernel
theorem dX5_lastText_10 : decode cX5_lastText 10 = .ok (.ifCond .ge 6, 3) := by decide +kernel
theorem dX5_lastText_13 : decode cX5_lastText 13 = .ok (.iload 4, 2) := by decide +kernel
theorem dX5_lastText_15 : decode cX5_lastText 15 = .ok (.ireturn, 1) := by decide +kernel
theorem dX5_lastText_16 : decode cX5_lastText 16 = .ok (.aload_n 0, 1) := by decide +kernel
theorem dX5_lastText_17 : decode cX5_lastText 17 = .ok (.iload_n 2, 1) := by decide +kernel
theorem dX5_lastText_18 : decode cX5_lastText 18 = .ok (.invokevirtual 90, 3) := by decide +kernel
theorem dX5_lastText_21 : decode cX5_lastText 21 = .ok (.aload_n 0, 1) := by decide +kernel
theorem dX5_lastText_22 : decode cX5_lastText 22 = .ok (.aload_n 0, 1) := by decide +kernel
theorem dX5_lastText_23 : decode cX5_lastText 23 = .ok (.getfield 16, 3) := by decide +kernel
theorem dX5_lastText_26 : decode cX5_lastText 26 = .ok (.sipush 200, 3) := by decide +kernel
theorem dX5_lastText_29 : decode cX5_lastText 29 = .ok (.iload_n 1, 1) := by decide +kernel
theorem dX5_lastText_30 : decode cX5_lastText 30 = .ok (.imul, 1) := by decide +kernel
theorem dX5_lastText_31 : decode cX5_lastText 31 = .ok (.aload_n 0, 1) := by decide +kernel
theorem dX5_lastText_32 : decode cX5_lastText 32 = .ok (.getfield 19, 3) := by decide +kernel
theorem dX5_lastText_35 : decode cX5_lastText 35 = .ok (.iload_n 1, 1) := by decide +kernel
theorem dX5_lastText_36 : decode cX5_lastText 36 = .ok (.iaload, 1) := by decide +kernel
theorem dX5_lastText_37 : decode cX5_lastText 37 = .ok (.iload_n 3, 1) := by decide +kernel
theorem dX5_lastText_38 : decode cX5_lastText 38 = .ok (.invokevirtual 115, 3) := by decide +kernel
theorem dX5_lastText_41 : decode cX5_lastText 41 = .ok (.ireturn, 1) := by decide +kernel
theorem dX5_region_0 : decode cX5_region 0 = .ok (.aload_n 0, 1) := by decide +kernel
theorem dX5_region_1 : decode cX5_region 1 = .ok (.iload_n 1, 1) := by decide +kernel
theorem dX5_region_2 : decode cX5_region 2 = .ok (.iload_n 3, 1) := by decide +kernel
theorem dX5_region_3 : decode cX5_region 3 = .ok (.invokevirtual 128, 3) := by decide +kernel
theorem dX5_region_6 : decode cX5_region 6 = .ok (.istore 6, 2) := by decide +kernel
theorem dX5_region_8 : decode cX5_region 8 = .ok (.iload 6, 2) := by decide +kernel
theorem dX5_region_10 : decode cX5_region 10 = .ok (.ifCond .ge 6, 3) := by decide +kernel
theorem dX5_region_13 : decode cX5_region 13 = .ok (.iload 6, 2) := by decide +kernel
theorem dX5_region_15 : decode cX5_region 15 = .ok (.ireturn, 1) := by decide +kernel
theorem dX5_region_16 : decode cX5_region 16 = .ok (.iload_n 2, 1) := by decide +kernel
theorem dX5_region_17 : decode cX5_region 17 = .ok (.ifCond .lt 47, 3) := by decide +kernel
theorem dX5_region_20 : decode cX5_region 20 = .ok (.iload 4, 2) := by decide +kernel
theorem dX5_region_22 : decode cX5_region 22 = .ok (.ifCond .lt 42, 3) := by decide +kernel
theorem dX5_region_25 : decode cX5_region 25 = .ok (.iload_n 2, 1) := by decide +kernel
theorem dX5_region_26 : decode cX5_region 26 = .ok (.i2l, 1) := by decide +kernel
theorem dX5_region_27 : decode cX5_region 27 = .ok (.iload 5, 2) := by decide +kernel
theorem dX5_region_29 : decode cX5_region 29 = .ok (.i2l, 1) := by decide +kernel
theorem dX5_region_30 : decode cX5_region 30 = .ok (.ladd, 1) := by decide +kernel
theorem dX5_region_31 : decode cX5_region 31 = .ok (.aload_n 0, 1) := by decide +kernel
theorem dX5_region_32 : decode cX5_region 32 = .ok (.getfield 19, 3) := by decide +kernel
theorem dX5_region_35 : decode cX5_region 35 = .ok (.iload_n 1, 1) := by decide +kernel
theorem dX5_region_36 : decode cX5_region 36 = .ok (.iaload, 1) := by decide +kernel
theorem dX5_region_37 : decode cX5_region 37 = .ok (.i2l, 1) := by decide +kernel
theorem dX5_region_38 : decode cX5_region 38 = .ok (.lcmp, 1) := by decide +kernel
theorem dX5_region_39 : decode cX5_region 39 = .ok (.ifCond .gt 25, 3) := by decide +kernel
theorem dX5_region_42 : decode cX5_region 42 = .ok (.iload 4, 2) := by decide +kernel
theorem dX5_region_44 : decode cX5_region 44 = .ok (.i2l, 1) := by decide +kernel
theorem dX5_region_45 : decode cX5_region 45 = .ok (.iload 5, 2) := by decide +kernel
theorem dX5_region_47 : decode cX5_region 47 = .ok (.i2l, 1) := by decide +kernel
theorem dX5_region_48 : decode cX5_region 48 = .ok (.ladd, 1) := by decide +kernel
theorem dX5_region_49 : decode cX5_region 49 = .ok (.aload_n 0, 1) := by decide +kernel
theorem dX5_region_50 : decode cX5_region 50 = .ok (.getfield 19, 3) := by decide +kernel
theorem dX5_region_53 : decode cX5_region 53 = .ok (.iload_n 3, 1) := by decide +kernel
theorem dX5_region_54 : decode cX5_region 54 = .ok (.iaload, 1) := by decide +kernel
theorem dX5_region_55 : decode cX5_region 55 = .ok (.i2l, 1) := by decide +kernel
theorem dX5_region_56 : decode cX5_region 56 = .ok (.lcmp, 1) := by decide +kernel
theorem dX5_region_57 : decode cX5_region 57 = .ok (.ifCond .gt 7, 3) := by decide +kernel
theorem dX5_region_60 : decode cX5_region 60 = .ok (.iconst 1, 1) := by decide +kernel
theorem dX5_region_61 : decode cX5_region 61 = .ok (.goto 4, 3) := by decide +kernel
theorem dX5_region_64 : decode cX5_region 64 = .ok (.iconst 0, 1) := by decide +kernel
theorem dX5_region_65 : decode cX5_region 65 = .ok (.istore 7, 2) := by decide +kernel
theorem dX5_region_67 : decode cX5_region 67 = .ok (.iconst 0, 1) := by decide +kernel
theorem dX5_region_68 : decode cX5_region 68 = .ok (.istore 8, 2) := by decide +kernel
theorem dX5_region_70 : decode cX5_region 70 = .ok (.iload 8, 2) := by decide +kernel
theorem dX5_region_72 : decode cX5_region 72 = .ok (.iload 5, 2) := by decide +kernel
theorem dX5_region_74 : decode cX5_region 74 = .ok (.if_icmp .ge 55, 3) := by decide +kernel
theorem dX5_region_77 : decode cX5_region 77 = .ok (.iload 7, 2) := by decide +kernel
theorem dX5_region_79 : decode cX5_region 79 = .ok (.ifCond .eq 50, 3) := by decide +kernel
theorem dX5_region_82 : decode cX5_region 82 = .ok (.aload_n 0, 1) := by decide +kernel
theorem dX5_region_83 : decode cX5_region 83 = .ok (.getfield 16, 3) := by decide +kernel
theorem dX5_region_86 : decode cX5_region 86 = .ok (.sipush 200, 3) := by decide +kernel
theorem dX5_region_89 : decode cX5_region 89 = .ok (.iload_n 1, 1) := by decide +kernel
theorem dX5_region_90 : decode cX5_region 90 = .ok (.imul, 1) := by decide +kernel
theorem dX5_region_91 : decode cX5_region 91 = .ok (.iload_n 2, 1) := by decide +kernel
theorem dX5_region_92 : decode cX5_region 92 = .ok (.iadd, 1) := by decide +kernel
theorem dX5_region_93 : decode cX5_region 93 = .ok (.iload 8, 2) := by decide +kernel
theorem dX5_region_95 : decode cX5_region 95 = .ok (.iadd, 1) := by decide +kernel
theorem dX5_region_96 : decode cX5_region 96 = .ok (.iaload, 1) := by decide +kernel
theorem dX5_region_97 : decode cX5_region 97 = .ok (.aload_n 0, 1) := by decide +kernel
theorem dX5_region_98 : decode cX5_region 98 = .ok (.getfield 16, 3) := by decide +kernel
theorem dX5_region_101 : decode cX5_region 101 = .ok (.sipush 200, 3) := by decide +kernel
theorem dX5_region_104 : decode cX5_region 104 = .ok (.iload_n 3, 1) := by decide +kernel
theorem dX5_region_105 : decode cX5_region 105 = .ok (.imul, 1) := by decide +kernel
theorem dX5_region_106 : decode cX5_region 106 = .ok (.iload 4, 2) := by decide +kernel
theorem dX5_region_108 : decode cX5_region 108 = .ok (.iadd, 1) := by decide +kernel
theorem dX5_region_109 : decode cX5_region 109 = .ok (.iload 8, 2) := by decide +kernel
theorem dX5_region_111 : decode cX5_region 111 = .ok (.iadd, 1) := by decide +kernel
theorem dX5_region_112 : decode cX5_region 112 = .ok (.iaload, 1) := by decide +kernel
theorem dX5_region_113 : decode cX5_region 113 = .ok (.if_icmp .ne 7, 3) := by decide +kernel
theorem dX5_region_116 : decode cX5_region 116 = .ok (.iconst 1, 1) := by decide +kernel
theorem dX5_region_117 : decode cX5_region 117 = .ok (.goto 4, 3) := by decide +kernel
theorem dX5_region_120 : decode cX5_region 120 = .ok (.iconst 0, 1) := by decide +kernel
theorem dX5_region_121 : decode cX5_region 121 = .ok (.istore 7, 2) := by decide +kernel
theorem dX5_region_123 : decode cX5_region 123 = .ok (.iinc 8 1, 3) := by decide +kernel
theorem dX5_region_126 : decode cX5_region 126 = .ok (.goto (-56), 3) := by decide +kernel
theorem dX5_region_129 : decode cX5_region 129 = .ok (.iload 7, 2) := by decide +kernel
theorem dX5_region_131 : decode cX5_region 131 = .ok (.ifCond .eq 7, 3) := by decide +kernel
theorem dX5_region_134 : decode cX5_region 134 = .ok (.iconst 1, 1) := by decide +kernel
theorem dX5_region_135 : decode cX5_region 135 = .ok (.goto 4, 3) := by decide +kernel
theorem dX5_region_138 : decode cX5_region 138 = .ok (.iconst 0, 1) := by decide +kernel
theorem dX5_region_139 : decode cX5_region 139 = .ok (.ireturn, 1) := by decide +kernel
theorem dX5_order_0 : decode cX5_order 0 = .ok (.aload_n 0, 1) := by decide +kernel
theorem dX5_order_1 : decode cX5_order 1 = .ok (.iload_n 1, 1) := by decide +kernel
theorem dX5_order_2 : decode cX5_order 2 = .ok (.iload_n 2, 1) := by decide +kernel
theorem dX5_order_3 : decode cX5_order 3 = .ok (.invokevirtual 128, 3) := by decide +kernel
theorem dX5_order_6 : decode cX5_order 6 = .ok (.istore_n 3, 1) := by decide +kernel
theorem dX5_order_7 : decode cX5_order 7 = .ok (.iload_n 3, 1) := by decide +kernel
theorem dX5_order_8 : decode cX5_order 8 = .ok (.ifCond .ge 7, 3) := by decide +kernel
theorem dX5_order_11 : decode cX5_order 11 = .ok (.iload_n 3, 1) := by decide +kernel
theorem dX5_order_12 : decode cX5_order 12 = .ok (.goto 32, 3) := by decide +kernel
theorem dX5_order_15 : decode cX5_order 15 = .ok (.aload_n 0, 1) := by decide +kernel
theorem dX5_order_16 : decode cX5_order 16 = .ok (.getfield 16, 3) := by decide +kernel
theorem dX5_order_19 : decode cX5_order 19 = .ok (.sipush 200, 3) := by decide +kernel
theorem dX5_order_22 : decode cX5_order 22 = .ok (.iload_n 1, 1) := by decide +kernel
theorem dX5_order_23 : decode cX5_order 23 = .ok (.imul, 1) := by decide +kernel
theorem dX5_order_24 : decode cX5_order 24 = .ok (.aload_n 0, 1) := by decide +kernel
theorem dX5_order_25 : decode cX5_order 25 = .ok (.getfield 19, 3) := by decide +kernel
theorem dX5_order_28 : decode cX5_order 28 = .ok (.iload_n 1, 1) := by decide +kernel
theorem dX5_order_29 : decode cX5_order 29 = .ok (.iaload, 1) := by decide +kernel
theorem dX5_order_30 : decode cX5_order 30 = .ok (.sipush 200, 3) := by decide +kernel
theorem dX5_order_33 : decode cX5_order 33 = .ok (.iload_n 2, 1) := by decide +kernel
theorem dX5_order_34 : decode cX5_order 34 = .ok (.imul, 1) := by decide +kernel
theorem dX5_order_35 : decode cX5_order 35 = .ok (.aload_n 0, 1) := by decide +kernel
theorem dX5_order_36 : decode cX5_order 36 = .ok (.getfield 19, 3) := by decide +kernel
theorem dX5_order_39 : decode cX5_order 39 = .ok (.iload_n 2, 1) := by decide +kernel
theorem dX5_order_40 : decode cX5_order 40 = .ok (.iaload, 1) := by decide +kernel
theorem dX5_order_41 : decode cX5_order 41 = .ok (.invokestatic 121, 3) := by decide +kernel
theorem dX5_order_44 : decode cX5_order 44 = .ok (.ireturn, 1) := by decide +kernel
theorem dX5_begins_0 : decode cX5_begins 0 = .ok (.aload_n 0, 1) := by decide +kernel
theorem dX5_begins_1 : decode cX5_begins 1 = .ok (.iload_n 1, 1) := by decide +kernel
theorem dX5_begins_2 : decode cX5_begins 2 = .ok (.iload_n 2, 1) := by decide +kernel
theorem dX5_begins_3 : decode cX5_begins 3 = .ok (.invokevirtual 128, 3) := by decide +kernel
theorem dX5_begins_6 : decode cX5_begins 6 = .ok (.istore 4, 2) := by decide +kernel
theorem dX5_begins_8 : decode cX5_begins 8 = .ok (.iload 4, 2) := by decide +kernel
theorem dX5_begins_10 : decode cX5_begins 10 = .ok (.ifCond .ge 6, 3) := by decide +kernel
theorem dX5_begins_13 : decode cX5_begins 13 = .ok (.iload 4, 2) := by decide +kernel
theorem dX5_begins_15 : decode cX5_begins 15 = .ok (.ireturn, 1) := by decide +kernel
theorem dX5_begins_16 : decode cX5_begins 16 = .ok (.aload_n 0, 1) := by decide +kernel
theorem dX5_begins_17 : decode cX5_begins 17 = .ok (.iload_n 2, 1) := by decide +kernel
theorem dX5_begins_18 : decode cX5_begins 18 = .ok (.invokevirtual 90, 3) := by decide +kernel
theorem dX5_begins_21 : decode cX5_begins 21 = .ok (.aload_n 0, 1) := by decide +kernel
theorem dX5_begins_22 : decode cX5_begins 22 = .ok (.aload_n 0, 1) := by decide +kernel
theorem dX5_begins_23 : decode cX5_begins 23 = .ok (.getfield 16, 3) := by decide +kernel
theorem dX5_begins_26 : decode cX5_begins 26 = .ok (.sipush 200, 3) := by decide +kernel
theorem dX5_begins_29 : decode cX5_begins 29 = .ok (.iload_n 1, 1) := by decide +kernel
theorem dX5_begins_30 : decode cX5_begins 30 = .ok (.imul, 1) := by decide +kernel
theorem dX5_begins_31 : decode cX5_begins 31 = .ok (.aload_n 0, 1) := by decide +kernel
theorem dX5_begins_32 : decode cX5_begins 32 = .ok (.getfield 19, 3) := by decide +kernel
theorem dX5_begins_35 : decode cX5_begins 35 = .ok (.iload_n 1, 1) := by decide +kernel
theorem dX5_begins_36 : decode cX5_begins 36 = .ok (.iaload, 1) := by decide +kernel
theorem dX5_begins_37 : decode cX5_begins 37 = .ok (.iload_n 3, 1) := by decide +kernel
theorem dX5_begins_38 : decode cX5_begins 38 = .ok (.invokevirtual 107, 3) := by decide +kernel
theorem dX5_begins_41 : decode cX5_begins 41 = .ok (.ifCond .eq 7, 3) := by decide +kernel
theorem dX5_begins_44 : decode cX5_begins 44 = .ok (.iconst 1, 1) := by decide +kernel
theorem dX5_begins_45 : decode cX5_begins 45 = .ok (.goto 4, 3) := by decide +kernel
theorem dX5_begins_48 : decode cX5_begins 48 = .ok (.iconst 0, 1) := by decide +kernel
theorem dX5_begins_49 : decode cX5_begins 49 = .ok (.ireturn, 1) := by decide +kernel
theorem dX5_barsOne_0 : decode cX5_barsOne 0 = .ok (.iload_n 1, 1) := by decide +kernel
theorem dX5_barsOne_1 : decode cX5_barsOne 1 = .ok (.invokestatic 87, 3) := by decide +kernel
theorem dX5_barsOne_4 : decode cX5_barsOne 4 = .ok (.ifCond .eq 10, 3) := by decide +kernel
theorem dX5_barsOne_7 : decode cX5_barsOne 7 = .ok (.iload_n 2, 1) := by decide +kernel
theorem dX5_barsOne_8 : decode cX5_barsOne 8 = .ok (.invokestatic 87, 3) := by decide +kernel
theorem dX5_barsOne_11 : decode cX5_barsOne 11 = .ok (.ifCond .ne 9, 3) := by decide +kernel
theorem dX5_barsOne_14 : decode cX5_barsOne 14 = .ok (.sipush (-1001), 3) := by decide +kernel
theorem dX5_barsOne_17 : decode cX5_barsOne 17 = .ok (.goto 19, 3) := by decide +kernel
theorem dX5_barsOne_20 : decode cX5_barsOne 20 = .ok (.aload_n 0, 1) := by decide +kernel
theorem dX5_barsOne_21 : decode cX5_barsOne 21 = .ok (.getfield 19, 3) := by decide +kernel
theorem dX5_barsOne_24 : decode cX5_barsOne 24 = .ok (.iload_n 1, 1) := by decide +kernel
theorem dX5_barsOne_25 : decode cX5_barsOne 25 = .ok (.iaload, 1) := by decide +kernel
theorem dX5_barsOne_26 : decode cX5_barsOne 26 = .ok (.ifCond .ge 9, 3) := by decide +kernel
theorem dX5_barsOne_29 : decode cX5_barsOne 29 = .ok (.sipush (-1003), 3) := by decide +kernel
theorem dX5_barsOne_32 : decode cX5_barsOne 32 = .ok (.goto 4, 3) := by decide +kernel
theorem dX5_barsOne_35 : decode cX5_barsOne 35 = .ok (.iconst 0, 1) := by decide +kernel
theorem dX5_barsOne_36 : decode cX5_barsOne 36 = .ok (.ireturn, 1) := by decide +kernel
theorem dX5_swap_0 : decode cX5_swap 0 = .ok (.iload_n 1, 1) := by decide +kernel
theorem dX5_swap_1 : decode cX5_swap 1 = .ok (.invokestatic 87, 3) := by decide +kernel
theorem dX5_swap_4 : decode cX5_swap 4 = .ok (.ifCond .eq 11, 3) := by decide +kernel
theorem dX5_swap_7 : decode cX5_swap 7 = .ok (.iload 4, 2) := by decide +kernel
theorem dX5_swap_9 : decode cX5_swap 9 = .ok (.invokestatic 87, 3) := by decide +kernel
theorem dX5_swap_12 : decode cX5_swap 12 = .ok (.ifCond .ne 7, 3) := by decide +kernel
theorem dX5_swap_15 : decode cX5_swap 15 = .ok (.sipush (-1001), 3) := by decide +kernel
theorem dX5_swap_18 : decode cX5_swap 18 = .ok (.ireturn, 1) := by decide +kernel
theorem dX5_swap_19 : decode cX5_swap 19 = .ok (.iload_n 2, 1) := by decide +kernel
theorem dX5_swap_20 : decode cX5_swap 20 = .ok (.invokestatic 74, 3) := by decide +kernel
theorem dX5_swap_23 : decode cX5_swap 23 = .ok (.ifCond .eq 10, 3) := by decide +kernel
theorem dX5_swap_26 : decode cX5_swap 26 = .ok (.iload_n 3, 1) := by decide +kernel
theorem dX5_swap_27 : decode cX5_swap 27 = .ok (.invokestatic 74, 3) := by decide +kernel
theorem dX5_swap_30 : decode cX5_swap 30 = .ok (.ifCond .ne 7, 3) := by decide +kernel
theorem dX5_swap_33 : decode cX5_swap 33 = .ok (.sipush (-1002), 3) := by decide +kernel
theorem dX5_swap_36 : decode cX5_swap 36 = .ok (.ireturn, 1) := by decide +kernel
theorem dX5_swap_37 : decode cX5_swap 37 = .ok (.aload_n 0, 1) := by decide +kernel
theorem dX5_swap_38 : decode cX5_swap 38 = .ok (.getfield 19, 3) := by decide +kernel
theorem dX5_swap_41 : decode cX5_swap 41 = .ok (.iload_n 1, 1) := by decide +kernel
theorem dX5_swap_42 : decode cX5_swap 42 = .ok (.iaload, 1) := by decide +kernel
theorem dX5_swap_43 : decode cX5_swap 43 = .ok (.ifCond .ge 7, 3) := by decide +kernel
theorem dX5_swap_46 : decode cX5_swap 46 = .ok (.sipush (-1003), 3) := by decide +kernel
theorem dX5_swap_49 : decode cX5_swap 49 = .ok (.ireturn, 1) := by decide +kernel
theorem dX5_swap_50 : decode cX5_swap 50 = .ok (.aload_n 0, 1) := by decide +kernel
theorem dX5_swap_51 : decode cX5_swap 51 = .ok (.iload_n 1, 1) := by decide +kernel
theorem dX5_swap_52 : decode cX5_swap 52 = .ok (.invokevirtual 90, 3) := by decide +kernel
theorem dX5_swap_55 : decode cX5_swap 55 = .ok (.iconst 0, 1) := by decide +kernel
theorem dX5_swap_56 : decode cX5_swap 56 = .ok (.istore 5, 2) := by decide +kernel
theorem dX5_swap_58 : decode cX5_swap 58 = .ok (.iload 5, 2) := by decide +kernel
theorem dX5_swap_60 : decode cX5_swap 60 = .ok (.aload_n 0, 1) := by decide +kernel
theorem dX5_swap_61 : decode cX5_swap 61 = .ok (.getfield 62, 3) := by decide +kernel
theorem dX5_swap_64 : decode cX5_swap 64 = .ok (.if_icmp .ge 38, 3) := by decide +kernel
theorem dX5_swap_67 : decode cX5_swap 67 = .ok (.aload_n 0, 1) := by decide +kernel
theorem dX5_swap_68 : decode cX5_swap 68 = .ok (.getfield 22, 3) := by decide +kernel
theorem dX5_swap_71 : decode cX5_swap 71 = .ok (.iload 5, 2) := by decide +kernel
theorem dX5_swap_73 : decode cX5_swap 73 = .ok (.aload_n 0, 1) := by decide +kernel
theorem dX5_swap_74 : decode cX5_swap 74 = .ok (.getfield 22, 3) := by decide +kernel
theorem dX5_swap_77 : decode cX5_swap 77 = .ok (.iload 5, 2) := by decide +kernel
theorem dX5_swap_79 : decode cX5_swap 79 = .ok (.iaload, 1) := by decide +kernel
theorem dX5_swap_80 : decode cX5_swap 80 = .ok (.iload_n 2, 1) := by decide +kernel
theorem dX5_swap_81 : decode cX5_swap 81 = .ok (.if_icmp .ne 7, 3) := by decide +kernel
theorem dX5_swap_84 : decode cX5_swap 84 = .ok (.iload_n 3, 1) := by decide +kernel
theorem dX5_swap_85 : decode cX5_swap 85 = .ok (.goto 10, 3) := by decide +kernel
theorem dX5_swap_88 : decode cX5_swap 88 = .ok (.aload_n 0, 1) := by decide +kernel
theorem dX5_swap_89 : decode cX5_swap 89 = .ok (.getfield 22, 3) := by decide +kernel
theorem dX5_swap_92 : decode cX5_swap 92 = .ok (.iload 5, 2) := by decide +kernel
theorem dX5_swap_94 : decode cX5_swap 94 = .ok (.iaload, 1) := by decide +kernel
theorem dX5_swap_95 : decode cX5_swap 95 = .ok (.iastore, 1) := by decide +kernel
theorem dX5_swap_96 : decode cX5_swap 96 = .ok (.iinc 5 1, 3) := by decide +kernel
theorem dX5_swap_99 : decode cX5_swap 99 = .ok (.goto (-41), 3) := by decide +kernel
theorem dX5_swap_102 : decode cX5_swap 102 = .ok (.aload_n 0, 1) := by decide +kernel
theorem dX5_swap_103 : decode cX5_swap 103 = .ok (.iload 4, 2) := by decide +kernel
theorem dX5_swap_105 : decode cX5_swap 105 = .ok (.invokevirtual 118, 3) := by decide +kernel
theorem dX5_swap_108 : decode cX5_swap 108 = .ok (.ireturn, 1) := by decide +kernel
theorem dX5_sub_0 : decode cX5_sub 0 = .ok (.aload_n 0, 1) := by decide +kernel
theorem dX5_sub_1 : decode cX5_sub 1 = .ok (.iload_n 1, 1) := by decide +kernel
theorem dX5_sub_2 : decode cX5_sub 2 = .ok (.iload 4, 2) := by decide +kernel
theorem dX5_sub_4 : decode cX5_sub 4 = .ok (.invokevirtual 131, 3) := by decide +kernel
theorem dX5_sub_7 : decode cX5_sub 7 = .ok (.istore 5, 2) := by decide +kernel
theorem dX5_sub_9 : decode cX5_sub 9 = .ok (.iload 5, 2) := by decide +kernel
theorem dX5_sub_11 : decode cX5_sub 11 = .ok (.ifCond .ge 6, 3) := by decide +kernel
theorem dX5_sub_14 : decode cX5_sub 14 = .ok (.iload 5, 2) := by decide +kernel
theorem dX5_sub_16 : decode cX5_sub 16 = .ok (.ireturn, 1) := by decide +kernel
theorem dX5_sub_17 : decode cX5_sub 17 = .ok (.aload_n 0, 1) := by decide +kernel
theorem dX5_sub_18 : decode cX5_sub 18 = .ok (.iload_n 1, 1) := by decide +kernel
theorem dX5_sub_19 : decode cX5_sub 19 = .ok (.invokevirtual 90, 3) := by decide +kernel
theorem dX5_sub_22 : decode cX5_sub 22 = .ok (.iload_n 2, 1) := by decide +kernel
theorem dX5_sub_23 : decode cX5_sub 23 = .ok (.ifCond .lt 16, 3) := by decide +kernel
theorem dX5_sub_26 : decode cX5_sub 26 = .ok (.iload_n 3, 1) := by decide +kernel
theorem dX5_sub_27 : decode cX5_sub 27 = .ok (.aload_n 0, 1) := by decide +kernel
theorem dX5_sub_28 : decode cX5_sub 28 = .ok (.getfield 62, 3) := by decide +kernel
theorem dX5_sub_31 : decode cX5_sub 31 = .ok (.if_icmp .gt 8, 3) := by decide +kernel
theorem dX5_sub_34 : decode cX5_sub 34 = .ok (.iload_n 2, 1) := by decide +kernel
theorem dX5_sub_35 : decode cX5_sub 35 = .ok (.iload_n 3, 1) := by decide +kernel
theorem dX5_sub_36 : decode cX5_sub 36 = .ok (.if_icmp .le 7, 3) := by decide +kernel
theorem dX5_sub_39 : decode cX5_sub 39 = .ok (.sipush (-1005), 3) := by decide +kernel
theorem dX5_sub_42 : decode cX5_sub 42 = .ok (.ireturn, 1) := by decide +kernel
theorem dX5_sub_43 : decode cX5_sub 43 = .ok (.aload_n 0, 1) := by decide +kernel
theorem dX5_sub_44 : decode cX5_sub 44 = .ok (.iload_n 2, 1) := by decide +kernel
theorem dX5_sub_45 : decode cX5_sub 45 = .ok (.iload_n 3, 1) := by decide +kernel
theorem dX5_sub_46 : decode cX5_sub 46 = .ok (.invokevirtual 93, 3) := by decide +kernel
theorem dX5_sub_49 : decode cX5_sub 49 = .ok (.aload_n 0, 1) := by decide +kernel
theorem dX5_sub_50 : decode cX5_sub 50 = .ok (.iload 4, 2) := by decide +kernel
theorem dX5_sub_52 : decode cX5_sub 52 = .ok (.invokevirtual 118, 3) := by decide +kernel
theorem dX5_sub_55 : decode cX5_sub 55 = .ok (.ireturn, 1) := by decide +kernel
theorem dX5_trim_0 : decode cX5_trim 0 = .ok (.aload_n 0, 1) := by decide +kernel
theorem dX5_trim_1 : decode cX5_trim 1 = .ok (.iload_n 1, 1) := by decide +kernel
theorem dX5_trim_2 : decode cX5_trim 2 = .ok (.iload_n 2, 1) := by decide +kernel
theorem dX5_trim_3 : decode cX5_trim 3 = .ok (.invokevirtual 131, 3) := by decide +kernel
theorem dX5_trim_6 : decode cX5_trim 6 = .ok (.istore_n 3, 1) := by decide +kernel
theorem dX5_trim_7 : decode cX5_trim 7 = .ok (.iload_n 3, 1) := by decide +kernel
theorem dX5_trim_8 : decode cX5_trim 8 = .ok (.ifCond .ge 5, 3) := by decide +kernel
theorem dX5_trim_11 : decode cX5_trim 11 = .ok (.iload_n 3, 1) := by decide +kernel
theorem dX5_trim_12 : decode cX5_trim 12 = .ok (.ireturn, 1) := by decide +kernel
theorem dX5_trim_13 : decode cX5_trim 13 = .ok (.aload_n 0, 1) := by decide +kernel
theorem dX5_trim_14 : decode cX5_trim 14 = .ok (.iload_n 1, 1) := by decide +kernel
theorem dX5_trim_15 : decode cX5_trim 15 = .ok (.invokevirtual 90, 3) := by decide +kernel
theorem dX5_trim_18 : decode cX5_trim 18 = .ok (.iconst 0, 1) := by decide +kernel
theorem dX5_trim_19 : decode cX5_trim 19 = .ok (.istore 4, 2) := by decide +kernel
theorem dX5_trim_21 : decode cX5_trim 21 = .ok (.aload_n 0, 1) := by decide +kernel
theorem dX5_trim_22 : decode cX5_trim 22 = .ok (.getfield 62, 3) := by decide +kernel
theorem dX5_trim_25 : decode cX5_trim 25 = .ok (.istore 5, 2) := by decide +kernel
theorem dX5_trim_27 : decode cX5_trim 27 = .ok (.iload 4, 2) := by decide +kernel
theorem dX5_trim_29 : decode cX5_trim 29 = .ok (.iload 5, 2) := by decide +kernel
theorem dX5_trim_31 : decode cX5_trim 31 = .ok (.if_icmp .ge 21, 3) := by decide +kernel
theorem dX5_trim_34 : decode cX5_trim 34 = .ok (.aload_n 0, 1) := by decide +kernel
theorem dX5_trim_35 : decode cX5_trim 35 = .ok (.getfield 22, 3) := by decide +kernel
theorem dX5_trim_38 : decode cX5_trim 38 = .ok (.iload 4, 2) := by decide +kernel
theorem dX5_trim_40 : decode cX5_trim 40 = .ok (.iaload, 1) := by decide +kernel
theorem dX5_trim_41 : decode cX5_trim 41 = .ok (.bipush 32, 2) := by decide +kernel
theorem dX5_trim_43 : decode cX5_trim 43 = .ok (.if_icmp .gt 9, 3) := by decide +kernel
theorem dX5_trim_46 : decode cX5_trim 46 = .ok (.iinc 4 1, 3) := by decide +kernel
theorem dX5_trim_49 : decode cX5_trim 49 = .ok (.goto (-22), 3) := by decide +kernel
theorem dX5_trim_52 : decode cX5_trim 52 = .ok (.iload 5, 2) := by decide +kernel
theorem dX5_trim_54 : decode cX5_trim 54 = .ok (.iload 4, 2) := by decide +kernel
theorem dX5_trim_56 : decode cX5_trim 56 = .ok (.if_icmp .le 23, 3) := by decide +kernel
theorem dX5_trim_59 : decode cX5_trim 59 = .ok (.aload_n 0, 1) := by decide +kernel
theorem dX5_trim_60 : decode cX5_trim 60 = .ok (.getfield 22, 3) := by decide +kernel
theorem dX5_trim_63 : decode cX5_trim 63 = .ok (.iload 5, 2) := by decide +kernel
theorem dX5_trim_65 : decode cX5_trim 65 = .ok (.iconst 1, 1) := by decide +kernel
theorem dX5_trim_66 : decode cX5_trim 66 = .ok (.isub, 1) := by decide +kernel
theorem dX5_trim_67 : decode cX5_trim 67 = .ok (.iaload, 1) := by decide +kernel
theorem dX5_trim_68 : decode cX5_trim 68 = .ok (.bipush 32, 2) := by decide +kernel
theorem dX5_trim_70 : decode cX5_trim 70 = .ok (.if_icmp .gt 9, 3) := by decide +kernel
theorem dX5_trim_73 : decode cX5_trim 73 = .ok (.iinc 5 (-1), 3) := by decide +kernel
theorem dX5_trim_76 : decode cX5_trim 76 = .ok (.goto (-24), 3) := by decide +kernel
theorem dX5_trim_79 : decode cX5_trim 79 = .ok (.aload_n 0, 1) := by decide +kernel
theorem dX5_trim_80 : decode cX5_trim 80 = .ok (.iload 4, 2) := by decide +kernel
theorem dX5_trim_82 : decode cX5_trim 82 = .ok (.iload 5, 2) := by decide +kernel
theorem dX5_trim_84 : decode cX5_trim 84 = .ok (.invokevirtual 93, 3) := by decide +kernel
theorem dX5_trim_87 : decode cX5_trim 87 = .ok (.aload_n 0, 1) := by decide +kernel
theorem dX5_trim_88 : decode cX5_trim 88 = .ok (.iload_n 2, 1) := by decide +kernel
theorem dX5_trim_89 : decode cX5_trim 89 = .ok (.invokevirtual 118, 3) := by decide +kernel
theorem dX5_trim_92 : decode cX5_trim 92 = .ok (.ireturn, 1) := by decide +kernel
theorem dX5_repeat_0 : decode cX5_repeat 0 = .ok (.aload_n 0, 1) := by decide +kernel
theorem dX5_repeat_1 : decode cX5_repeat 1 = .ok (.iload_n 1, 1) := by decide +kernel
theorem dX5_repeat_2 : decode cX5_repeat 2 = .ok (.iload_n 3, 1) := by decide +kernel
theorem dX5_repeat_3 : decode cX5_repeat 3 = .ok (.invokevirtual 131, 3) := by decide +kernel
theorem dX5_repeat_6 : decode cX5_repeat 6 = .ok (.istore 4, 2) := by decide +kernel
theorem dX5_repeat_8 : decode cX5_repeat 8 = .ok (.iload 4, 2) := by decide +kernel
theorem dX5_repeat_10 : decode cX5_repeat 10 = .ok (.ifCond .ge 6, 3) := by decide +kernel
theorem dX5_repeat_13 : decode cX5_repeat 13 = .ok (.iload 4, 2) := by decide +kernel
theorem dX5_repeat_15 : decode cX5_repeat 15 = .ok (.ireturn, 1) := by decide +kernel
theorem dX5_repeat_16 : decode cX5_repeat 16 = .ok (.iload_n 2, 1) := by decide +kernel
theorem dX5_repeat_17 : decode cX5_repeat 17 = .ok (.ifCond .ge 7, 3) := by decide +kernel
theorem dX5_repeat_20 : decode cX5_repeat 20 = .ok (.sipush (-1004), 3) := by decide +kernel
theorem dX5_repeat_23 : decode cX5_repeat 23 = .ok (.ireturn, 1) := by decide +kernel
theorem dX5_repeat_24 : decode cX5_repeat 24 = .ok (.aload_n 0, 1) := by decide +kernel
theorem dX5_repeat_25 : decode cX5_repeat 25 = .ok (.iload_n 1, 1) := by decide +kernel
theorem dX5_repeat_26 : decode cX5_repeat 26 = .ok (.invokevirtual 90, 3) := by decide +kernel
theorem dX5_repeat_29 : decode cX5_repeat 29 = .ok (.aload_n 0, 1) := by decide +kernel
theorem dX5_repeat_30 : decode cX5_repeat 30 = .ok (.getfield 62, 3) := by decide +kernel
theorem dX5_repeat_33 : decode cX5_repeat 33 = .ok (.istore 5, 2) := by decide +kernel
theorem dX5_repeat_35 : decode cX5_repeat 35 = .ok (.iload_n 2, 1) := by decide +kernel
theorem dX5_repeat_36 : decode cX5_repeat 36 = .ok (.i2l, 1) := by decide +kernel
theorem dX5_repeat_37 : decode cX5_repeat 37 = .ok (.iload 5, 2) := by decide +kernel
theorem dX5_repeat_39 : decode cX5_repeat 39 = .ok (.i2l, 1) := by decide +kernel
theorem dX5_repeat_40 : decode cX5_repeat 40 = .ok (.lmul, 1) := by decide +kernel
theorem dX5_repeat_41 : decode cX5_repeat 41 = .ok (.ldc2_w 134, 3) := by decide +kernel
theorem dX5_repeat_44 : decode cX5_repeat 44 = .ok (.lcmp, 1) := by decide +kernel
theorem dX5_repeat_45 : decode cX5_repeat 45 = .ok (.ifCond .le 7, 3) := by decide +kernel
theorem dX5_repeat_48 : decode cX5_repeat 48 = .ok (.sipush (-1007), 3) := by decide +kernel
theorem dX5_repeat_51 : decode cX5_repeat 51 = .ok (.ireturn, 1) := by decide +kernel
theorem dX5_repeat_52 : decode cX5_repeat 52 = .ok (.aload_n 0, 1) := by decide +kernel
theorem dX5_repeat_53 : decode cX5_repeat 53 = .ok (.iload_n 2, 1) := by decide +kernel
theorem dX5_repeat_54 : decode cX5_repeat 54 = .ok (.iload 5, 2) := by decide +kernel
theorem dX5_repeat_56 : decode cX5_repeat 56 = .ok (.imul, 1) := by decide +kernel
theorem dX5_repeat_57 : decode cX5_repeat 57 = .ok (.putfield 62, 3) := by decide +kernel
theorem dX5_repeat_60 : decode cX5_repeat 60 = .ok (.iload 5, 2) := by decide +kernel
theorem dX5_repeat_62 : decode cX5_repeat 62 = .ok (.istore 6, 2) := by decide +kernel
theorem dX5_repeat_64 : decode cX5_repeat 64 = .ok (.iload 6, 2) := by decide +kernel
theorem dX5_repeat_66 : decode cX5_repeat 66 = .ok (.aload_n 0, 1) := by decide +kernel
theorem dX5_repeat_67 : decode cX5_repeat 67 = .ok (.getfield 62, 3) := by decide +kernel
theorem dX5_repeat_70 : decode cX5_repeat 70 = .ok (.if_icmp .ge 26, 3) := by decide +kernel
theorem dX5_repeat_73 : decode cX5_repeat 73 = .ok (.aload_n 0, 1) := by decide +kernel
theorem dX5_repeat_74 : decode cX5_repeat 74 = .ok (.getfield 22, 3) := by decide +kernel
theorem dX5_repeat_77 : decode cX5_repeat 77 = .ok (.iload 6, 2) := by decide +kernel
theorem dX5_repeat_79 : decode cX5_repeat 79 = .ok (.aload_n 0, 1) := by decide +kernel
theorem dX5_repeat_80 : decode cX5_repeat 80 = .ok (.getfield 22, 3) := by decide +kernel
theorem dX5_repeat_83 : decode cX5_repeat 83 = .ok (.iload 6, 2) := by decide +kernel
theorem dX5_repeat_85 : decode cX5_repeat 85 = .ok (.iload 5, 2) := by decide +kernel
theorem dX5_repeat_87 : decode cX5_repeat 87 = .ok (.isub, 1) := by decide +kernel
theorem dX5_repeat_88 : decode cX5_repeat 88 = .ok (.iaload, 1) := by decide +kernel
theorem dX5_repeat_89 : decode cX5_repeat 89 = .ok (.iastore, 1) := by decide +kernel
theorem dX5_repeat_90 : decode cX5_repeat 90 = .ok (.iinc 6 1, 3) := by decide +kernel
theorem dX5_repeat_93 : decode cX5_repeat 93 = .ok (.goto (-29), 3) := by decide +kernel
theorem dX5_repeat_96 : decode cX5_repeat 96 = .ok (.aload_n 0, 1) := by decide +kernel
theorem dX5_repeat_97 : decode cX5_repeat 97 = .ok (.iload_n 3, 1) := by decide +kernel
theorem dX5_repeat_98 : decode cX5_repeat 98 = .ok (.invokevirtual 118, 3) := by decide +kernel
theorem dX5_repeat_101 : decode cX5_repeat 101 = .ok (.ireturn, 1) := by decide +kernel
theorem dX5_join_0 : decode cX5_join 0 = .ok (.iload_n 1, 1) := by decide +kernel
theorem dX5_join_1 : decode cX5_join 1 = .ok (.invokestatic 87, 3) := by decide +kernel
theorem dX5_join_4 : decode cX5_join 4 = .ok (.ifCond .eq 17, 3) := by decide +kernel
theorem dX5_join_7 : decode cX5_join 7 = .ok (.iload_n 2, 1) := by decide +kernel
theorem dX5_join_8 : decode cX5_join 8 = .ok (.invokestatic 87, 3) := by decide +kernel
theorem dX5_join_11 : decode cX5_join 11 = .ok (.ifCond .eq 10, 3) := by decide +kernel
theorem dX5_join_14 : decode cX5_join 14 = .ok (.iload_n 3, 1) := by decide +kernel
theorem dX5_join_15 : decode cX5_join 15 = .ok (.invokestatic 87, 3) := by decide +kernel
theorem dX5_join_18 : decode cX5_join 18 = .ok (.ifCond .ne 7, 3) := by decide +kernel
theorem dX5_join_21 : decode cX5_join 21 = .ok (.sipush (-1001), 3) := by decide +kernel
theorem dX5_join_24 : decode cX5_join 24 = .ok (.ireturn, 1) := by decide +kernel
theorem dX5_join_25 : decode cX5_join 25 = .ok (.aload_n 0, 1) := by decide +kernel
theorem dX5_join_26 : decode cX5_join 26 = .ok (.getfield 19, 3) := by decide +kernel
theorem dX5_join_29 : decode cX5_join 29 = .ok (.iload_n 1, 1) := by decide +kernel
theorem dX5_join_30 : decode cX5_join 30 = .ok (.iaload, 1) := by decide +kernel
theorem dX5_join_31 : decode cX5_join 31 = .ok (.ifCond .lt 12, 3) := by decide +kernel
theorem dX5_join_34 : decode cX5_join 34 = .ok (.aload_n 0, 1) := by decide +kernel
theorem dX5_join_35 : decode cX5_join 35 = .ok (.getfield 19, 3) := by decide +kernel
theorem dX5_join_38 : decode cX5_join 38 = .ok (.iload_n 2, 1) := by decide +kernel
theorem dX5_join_39 : decode cX5_join 39 = .ok (.iaload, 1) := by decide +kernel
theorem dX5_join_40 : decode cX5_join 40 = .ok (.ifCond .ge 7, 3) := by decide +kernel
theorem dX5_join_43 : decode cX5_join 43 = .ok (.sipush (-1003), 3) := by decide +kernel
theorem dX5_join_46 : decode cX5_join 46 = .ok (.ireturn, 1) := by decide +kernel
theorem dX5_join_47 : decode cX5_join 47 = .ok (.aload_n 0, 1) := by decide +kernel
theorem dX5_join_48 : decode cX5_join 48 = .ok (.getfield 19, 3) := by decide +kernel
theorem dX5_join_51 : decode cX5_join 51 = .ok (.iload_n 1, 1) := by decide +kernel
theorem dX5_join_52 : decode cX5_join 52 = .ok (.iaload, 1) := by decide +kernel
theorem dX5_join_53 : decode cX5_join 53 = .ok (.aload_n 0, 1) := by decide +kernel
theorem dX5_join_54 : decode cX5_join 54 = .ok (.getfield 19, 3) := by decide +kernel
theorem dX5_join_57 : decode cX5_join 57 = .ok (.iload_n 2, 1) := by decide +kernel
theorem dX5_join_58 : decode cX5_join 58 = .ok (.iaload, 1) := by decide +kernel
theorem dX5_join_59 : decode cX5_join 59 = .ok (.iadd, 1) := by decide +kernel
theorem dX5_join_60 : decode cX5_join 60 = .ok (.sipush 200, 3) := by decide +kernel
theorem dX5_join_63 : decode cX5_join 63 = .ok (.if_icmp .le 7, 3) := by decide +kernel
theorem dX5_join_66 : decode cX5_join 66 = .ok (.sipush (-1007), 3) := by decide +kernel
theorem dX5_join_69 : decode cX5_join 69 = .ok (.ireturn, 1) := by decide +kernel
theorem dX5_join_70 : decode cX5_join 70 = .ok (.aload_n 0, 1) := by decide +kernel
theorem dX5_join_71 : decode cX5_join 71 = .ok (.iload_n 1, 1) := by decide +kernel
theorem dX5_join_72 : decode cX5_join 72 = .ok (.invokevirtual 90, 3) := by decide +kernel
theorem dX5_join_75 : decode cX5_join 75 = .ok (.iconst 0, 1) := by decide +kernel
theorem dX5_join_76 : decode cX5_join 76 = .ok (.istore 4, 2) := by decide +kernel
theorem dX5_join_78 : decode cX5_join 78 = .ok (.iload 4, 2) := by decide +kernel
theorem dX5_join_80 : decode cX5_join 80 = .ok (.aload_n 0, 1) := by decide +kernel
theorem dX5_join_81 : decode cX5_join 81 = .ok (.getfield 19, 3) := by decide +kernel
theorem dX5_join_84 : decode cX5_join 84 = .ok (.iload_n 2, 1) := by decide +kernel
theorem dX5_join_85 : decode cX5_join 85 = .ok (.iaload, 1) := by decide +kernel
theorem dX5_join_86 : decode cX5_join 86 = .ok (.if_icmp .ge 34, 3) := by decide +kernel
theorem dX5_join_89 : decode cX5_join 89 = .ok (.aload_n 0, 1) := by decide +kernel
theorem dX5_join_90 : decode cX5_join 90 = .ok (.getfield 22, 3) := by decide +kernel
theorem dX5_join_93 : decode cX5_join 93 = .ok (.aload_n 0, 1) := by decide +kernel
theorem dX5_join_94 : decode cX5_join 94 = .ok (.getfield 62, 3) := by decide +kernel
theorem dX5_join_97 : decode cX5_join 97 = .ok (.iload 4, 2) := by decide +kernel
theorem dX5_join_99 : decode cX5_join 99 = .ok (.iadd, 1) := by decide +kernel
theorem dX5_join_100 : decode cX5_join 100 = .ok (.aload_n 0, 1) := by decide +kernel
theorem dX5_join_101 : decode cX5_join 101 = .ok (.getfield 16, 3) := by decide +kernel
theorem dX5_join_104 : decode cX5_join 104 = .ok (.sipush 200, 3) := by decide +kernel
theorem dX5_join_107 : decode cX5_join 107 = .ok (.iload_n 2, 1) := by decide +kernel
theorem dX5_join_108 : decode cX5_join 108 = .ok (.imul, 1) := by decide +kernel
theorem dX5_join_109 : decode cX5_join 109 = .ok (.iload 4, 2) := by decide +kernel
theorem dX5_join_111 : decode cX5_join 111 = .ok (.iadd, 1) := by decide +kernel
theorem dX5_join_112 : decode cX5_join 112 = .ok (.iaload, 1) := by decide +kernel
theorem dX5_join_113 : decode cX5_join 113 = .ok (.iastore, 1) := by decide +kernel
theorem dX5_join_114 : decode cX5_join 114 = .ok (.iinc 4 1, 3) := by decide +kernel
theorem dX5_join_117 : decode cX5_join 117 = .ok (.goto (-39), 3) := by decide +kernel
theorem dX5_join_120 : decode cX5_join 120 = .ok (.aload_n 0, 1) := by decide +kernel
theorem dX5_join_121 : decode cX5_join 121 = .ok (.aload_n 0, 1) := by decide +kernel
theorem dX5_join_122 : decode cX5_join 122 = .ok (.getfield 62, 3) := by decide +kernel
theorem dX5_join_125 : decode cX5_join 125 = .ok (.aload_n 0, 1) := by decide +kernel
theorem dX5_join_126 : decode cX5_join 126 = .ok (.getfield 19, 3) := by decide +kernel
theorem dX5_join_129 : decode cX5_join 129 = .ok (.iload_n 2, 1) := by decide +kernel
theorem dX5_join_130 : decode cX5_join 130 = .ok (.iaload, 1) := by decide +kernel
theorem dX5_join_131 : decode cX5_join 131 = .ok (.iadd, 1) := by decide +kernel
theorem dX5_join_132 : decode cX5_join 132 = .ok (.putfield 62, 3) := by decide +kernel
theorem dX5_join_135 : decode cX5_join 135 = .ok (.aload_n 0, 1) := by decide +kernel
theorem dX5_join_136 : decode cX5_join 136 = .ok (.iload_n 3, 1) := by decide +kernel
theorem dX5_join_137 : decode cX5_join 137 = .ok (.invokevirtual 118, 3) := by decide +kernel
theorem dX5_join_140 : decode cX5_join 140 = .ok (.ireturn, 1) := by decide +kernel
theorem dX5_isSeparator_0 : decode cX5_isSeparator 0 = .ok (.iload_n 0, 1) := by decide +kernel
theorem dX5_isSeparator_1 : decode cX5_isSeparator 1 = .ok (.invokestatic 74, 3) := by decide +kernel
theorem dX5_isSeparator_4 : decode cX5_isSeparator 4 = .ok (.ifCond .eq 31, 3) := by decide +kernel
theorem dX5_isSeparator_7 : decode cX5_isSeparator 7 = .ok (.iload_n 0, 1) := by decide +kernel
theorem dX5_isSeparator_8 : decode cX5_isSeparator 8 = .ok (.bipush 36, 2) := by decide +kernel
theorem dX5_isSeparator_10 : decode cX5_isSeparator 10 = .ok (.if_icmp .eq 25, 3) := by decide +kernel
theorem dX5_isSeparator_13 : decode cX5_isSeparator 13 = .ok (.iload_n 0, 1) := by decide +kernel
theorem dX5_isSeparator_14 : decode cX5_isSeparator 14 = .ok (.bipush 46, 2) := by decide +kernel
theorem dX5_isSeparator_16 : decode cX5_isSeparator 16 = .ok (.if_icmp .eq 19, 3) := by decide +kernel
theorem dX5_isSeparator_19 : decode cX5_isSeparator 19 = .ok (.iload_n 0, 1) := by decide +kernel
theorem dX5_isSeparator_20 : decode cX5_isSeparator 20 = .ok (.bipush 63, 2) := by decide +kernel
theorem dX5_isSeparator_22 : decode cX5_isSeparator 22 = .ok (.if_icmp .eq 13, 3) := by decide +kernel
theorem dX5_isSeparator_25 : decode cX5_isSeparator 25 = .ok (.iload_n 0, 1) := by decide +kernel
theorem dX5_isSeparator_26 : decode cX5_isSeparator 26 = .ok (.bipush 94, 2) := by decide +kernel
theorem dX5_isSeparator_28 : decode cX5_isSeparator 28 = .ok (.if_icmp .eq 7, 3) := by decide +kernel
theorem dX5_isSeparator_31 : decode cX5_isSeparator 31 = .ok (.iconst 1, 1) := by decide +kernel
theorem dX5_isSeparator_32 : decode cX5_isSeparator 32 = .ok (.goto 4, 3) := by decide +kernel
theorem dX5_isSeparator_35 : decode cX5_isSeparator 35 = .ok (.iconst 0, 1) := by decide +kernel
theorem dX5_isSeparator_36 : decode cX5_isSeparator 36 = .ok (.istore_n 1, 1) := by decide +kernel
theorem dX5_isSeparator_37 : decode cX5_isSeparator 37 = .ok (.iload_n 1, 1) := by decide +kernel
theorem dX5_isSeparator_38 : decode cX5_isSeparator 38 = .ok (.ifCond .eq 49, 3) := by decide +kernel
theorem dX5_isSeparator_41 : decode cX5_isSeparator 41 = .ok (.iload_n 0, 1) := by decide +kernel
theorem dX5_isSeparator_42 : decode cX5_isSeparator 42 = .ok (.i2l, 1) := by decide +kernel
theorem dX5_isSeparator_43 : decode cX5_isSeparator 43 = .ok (.ldc2_w 136, 3) := by decide +kernel
theorem dX5_isSeparator_46 : decode cX5_isSeparator 46 = .ok (.ldc2_w 138, 3) := by decide +kernel
theorem dX5_isSeparator_49 : decode cX5_isSeparator 49 = .ok (.invokestatic 54, 3) := by decide +kernel
theorem dX5_isSeparator_52 : decode cX5_isSeparator 52 = .ok (.ifCond .ne 35, 3) := by decide +kernel
theorem dX5_isSeparator_55 : decode cX5_isSeparator 55 = .ok (.iload_n 0, 1) := by decide +kernel
theorem dX5_isSeparator_56 : decode cX5_isSeparator 56 = .ok (.i2l, 1) := by decide +kernel
theorem dX5_isSeparator_57 : decode cX5_isSeparator 57 = .ok (.ldc2_w 140, 3) := by decide +kernel
theorem dX5_isSeparator_60 : decode cX5_isSeparator 60 = .ok (.ldc2_w 142, 3) := by decide +kernel
theorem dX5_isSeparator_63 : decode cX5_isSeparator 63 = .ok (.invokestatic 54, 3) := by decide +kernel
theorem dX5_isSeparator_66 : decode cX5_isSeparator 66 = .ok (.ifCond .ne 21, 3) := by decide +kernel
theorem dX5_isSeparator_69 : decode cX5_isSeparator 69 = .ok (.iload_n 0, 1) := by decide +kernel
theorem dX5_isSeparator_70 : decode cX5_isSeparator 70 = .ok (.i2l, 1) := by decide +kernel
theorem dX5_isSeparator_71 : decode cX5_isSeparator 71 = .ok (.ldc2_w 144, 3) := by decide +kernel
theorem dX5_isSeparator_74 : decode cX5_isSeparator 74 = .ok (.ldc2_w 146, 3) := by decide +kernel
theorem dX5_isSeparator_77 : decode cX5_isSeparator 77 = .ok (.invokestatic 54, 3) := by decide +kernel
theorem dX5_isSeparator_80 : decode cX5_isSeparator 80 = .ok (.ifCond .ne 7, 3) := by decide +kernel
theorem dX5_isSeparator_83 : decode cX5_isSeparator 83 = .ok (.iconst 1, 1) := by decide +kernel
theorem dX5_isSeparator_84 : decode cX5_isSeparator 84 = .ok (.goto 4, 3) := by decide +kernel
theorem dX5_isSeparator_87 : decode cX5_isSeparator 87 = .ok (.iconst 0, 1) := by decide +kernel
theorem dX5_isSeparator_88 : decode cX5_isSeparator 88 = .ok (.ireturn, 1) := by decide +kernel
theorem dX5_layPart_0 : decode cX5_layPart 0 = .ok (.aload_n 0, 1) := by decide +kernel
theorem dX5_layPart_1 : decode cX5_layPart 1 = .ok (.getfield 31, 3) := by decide +kernel
theorem dX5_layPart_4 : decode cX5_layPart 4 = .ok (.aload_n 0, 1) := by decide +kernel
theorem dX5_layPart_5 : decode cX5_layPart 5 = .ok (.getfield 148, 3) := by decide +kernel
theorem dX5_layPart_8 : decode cX5_layPart 8 = .ok (.iload_n 1, 1) := by decide +kernel
theorem dX5_layPart_9 : decode cX5_layPart 9 = .ok (.iastore, 1) := by decide +kernel
theorem dX5_layPart_10 : decode cX5_layPart 10 = .ok (.aload_n 0, 1) := by decide +kernel
theorem dX5_layPart_11 : decode cX5_layPart 11 = .ok (.getfield 34, 3) := by decide +kernel
theorem dX5_layPart_14 : decode cX5_layPart 14 = .ok (.aload_n 0, 1) := by decide +kernel
theorem dX5_layPart_15 : decode cX5_layPart 15 = .ok (.getfield 148, 3) := by decide +kernel
theorem dX5_layPart_18 : decode cX5_layPart 18 = .ok (.iload_n 2, 1) := by decide +kernel
theorem dX5_layPart_19 : decode cX5_layPart 19 = .ok (.iload_n 1, 1) := by decide +kernel
theorem dX5_layPart_20 : decode cX5_layPart 20 = .ok (.isub, 1) := by decide +kernel
theorem dX5_layPart_21 : decode cX5_layPart 21 = .ok (.iastore, 1) := by decide +kernel
theorem dX5_layPart_22 : decode cX5_layPart 22 = .ok (.aload_n 0, 1) := by decide +kernel
theorem dX5_layPart_23 : decode cX5_layPart 23 = .ok (.dup, 1) := by decide +kernel
theorem dX5_layPart_24 : decode cX5_layPart 24 = .ok (.getfield 148, 3) := by decide +kernel
theorem dX5_layPart_27 : decode cX5_layPart 27 = .ok (.iconst 1, 1) := by decide +kernel
theorem dX5_layPart_28 : decode cX5_layPart 28 = .ok (.iadd, 1) := by decide +kernel
theorem dX5_layPart_29 : decode cX5_layPart 29 = .ok (.putfield 148, 3) := by decide +kernel
theorem dX5_layPart_32 : decode cX5_layPart 32 = .ok (.return_, 1) := by decide +kernel
theorem dX5_split_0 : decode cX5_split 0 = .ok (.iload_n 1, 1) := by decide +kernel
theorem dX5_split_1 : decode cX5_split 1 = .ok (.invokestatic 87, 3) := by decide +kernel
theorem dX5_split_4 : decode cX5_split 4 = .ok (.ifCond .ne 7, 3) := by decide +kernel
theorem dX5_split_7 : decode cX5_split 7 = .ok (.sipush (-1001), 3) := by decide +kernel
theorem dX5_split_10 : decode cX5_split 10 = .ok (.ireturn, 1) := by decide +kernel
theorem dX5_split_11 : decode cX5_split 11 = .ok (.iload_n 2, 1) := by decide +kernel
theorem dX5_split_12 : decode cX5_split 12 = .ok (.invokestatic 151, 3) := by decide +kernel
theorem dX5_split_15 : decode cX5_split 15 = .ok (.ifCond .ne 7, 3) := by decide +kernel
theorem dX5_split_18 : decode cX5_split 18 = .ok (.sipush (-1002), 3) := by decide +kernel
theorem dX5_split_21 : decode cX5_split 21 = .ok (.ireturn, 1) := by decide +kernel
theorem dX5_split_22 : decode cX5_split 22 = .ok (.aload_n 0, 1) := by decide +kernel
theorem dX5_split_23 : decode cX5_split 23 = .ok (.getfield 19, 3) := by decide +kernel
theorem dX5_split_26 : decode cX5_split 26 = .ok (.iload_n 1, 1) := by decide +kernel
theorem dX5_split_27 : decode cX5_split 27 = .ok (.iaload, 1) := by decide +kernel
theorem dX5_split_28 : decode cX5_split 28 = .ok (.ifCond .ge 7, 3) := by decide +kernel
theorem dX5_split_31 : decode cX5_split 31 = .ok (.sipush (-1003), 3) := by decide +kernel
theorem dX5_split_34 : decode cX5_split 34 = .ok (.ireturn, 1) := by decide +kernel
theorem dX5_split_35 : decode cX5_split 35 = .ok (.aload_n 0, 1) := by decide +kernel
theorem dX5_split_36 : decode cX5_split 36 = .ok (.iconst 0, 1) := by decide +kernel
theorem dX5_split_37 : decode cX5_split 37 = .ok (.putfield 148, 3) := by decide +kernel
theorem dX5_split_40 : decode cX5_split 40 = .ok (.iconst 0, 1) := by decide +kernel
theorem dX5_split_41 : decode cX5_split 41 = .ok (.istore 4, 2) := by decide +kernel
theorem dX5_split_43 : decode cX5_split 43 = .ok (.iconst 0, 1) := by decide +kernel
theorem dX5_split_44 : decode cX5_split 44 = .ok (.istore 5, 2) := by decide +kernel
theorem dX5_split_46 : decode cX5_split 46 = .ok (.iload 5, 2) := by decide +kernel
theorem dX5_split_48 : decode cX5_split 48 = .ok (.aload_n 0, 1) := by decide +kernel
theorem dX5_split_49 : decode cX5_split 49 = .ok (.getfield 19, 3) := by decide +kernel
theorem dX5_split_52 : decode cX5_split 52 = .ok (.iload_n 1, 1) := by decide +kernel
theorem dX5_split_53 : decode cX5_split 53 = .ok (.iaload, 1) := by decide +kernel
theorem dX5_split_54 : decode cX5_split 54 = .ok (.if_icmp .ge 68, 3) := by decide +kernel
theorem dX5_split_57 : decode cX5_split 57 = .ok (.aload_n 0, 1) := by decide +kernel
theorem dX5_split_58 : decode cX5_split 58 = .ok (.getfield 28, 3) := by decide +kernel
theorem dX5_split_61 : decode cX5_split 61 = .ok (.iload 5, 2) := by decide +kernel
theorem dX5_split_63 : decode cX5_split 63 = .ok (.aload_n 0, 1) := by decide +kernel
theorem dX5_split_64 : decode cX5_split 64 = .ok (.getfield 16, 3) := by decide +kernel
theorem dX5_split_67 : decode cX5_split 67 = .ok (.sipush 200, 3) := by decide +kernel
theorem dX5_split_70 : decode cX5_split 70 = .ok (.iload_n 1, 1) := by decide +kernel
theorem dX5_split_71 : decode cX5_split 71 = .ok (.imul, 1) := by decide +kernel
theorem dX5_split_72 : decode cX5_split 72 = .ok (.iload 5, 2) := by decide +kernel
theorem dX5_split_74 : decode cX5_split 74 = .ok (.iadd, 1) := by decide +kernel
theorem dX5_split_75 : decode cX5_split 75 = .ok (.iaload, 1) := by decide +kernel
theorem dX5_split_76 : decode cX5_split 76 = .ok (.iastore, 1) := by decide +kernel
theorem dX5_split_77 : decode cX5_split 77 = .ok (.aload_n 0, 1) := by decide +kernel
theorem dX5_split_78 : decode cX5_split 78 = .ok (.getfield 28, 3) := by decide +kernel
theorem dX5_split_81 : decode cX5_split 81 = .ok (.iload 5, 2) := by decide +kernel
theorem dX5_split_83 : decode cX5_split 83 = .ok (.iaload, 1) := by decide +kernel
theorem dX5_split_84 : decode cX5_split 84 = .ok (.iload_n 2, 1) := by decide +kernel
theorem dX5_split_85 : decode cX5_split 85 = .ok (.if_icmp .ne 31, 3) := by decide +kernel
theorem dX5_split_88 : decode cX5_split 88 = .ok (.iload_n 3, 1) := by decide +kernel
theorem dX5_split_89 : decode cX5_split 89 = .ok (.ifCond .le 13, 3) := by decide +kernel
theorem dX5_split_92 : decode cX5_split 92 = .ok (.aload_n 0, 1) := by decide +kernel
theorem dX5_split_93 : decode cX5_split 93 = .ok (.getfield 148, 3) := by decide +kernel
theorem dX5_split_96 : decode cX5_split 96 = .ok (.iload_n 3, 1) := by decide +kernel
theorem dX5_split_97 : decode cX5_split 97 = .ok (.iconst 1, 1) := by decide +kernel
theorem dX5_split_98 : decode cX5_split 98 = .ok (.isub, 1) := by decide +kernel
theorem dX5_split_99 : decode cX5_split 99 = .ok (.if_icmp .ge 17, 3) := by decide +kernel
theorem dX5_split_102 : decode cX5_split 102 = .ok (.aload_n 0, 1) := by decide +kernel
theorem dX5_split_103 : decode cX5_split 103 = .ok (.iload 4, 2) := by decide +kernel
theorem dX5_split_105 : decode cX5_split 105 = .ok (.iload 5, 2) := by decide +kernel
theorem dX5_split_107 : decode cX5_split 107 = .ok (.invokevirtual 154, 3) := by decide +kernel
theorem dX5_split_110 : decode cX5_split 110 = .ok (.iload 5, 2) := by decide +kernel
theorem dX5_split_112 : decode cX5_split 112 = .ok (.iconst 1, 1) := by decide +kernel
theorem dX5_split_113 : decode cX5_split 113 = .ok (.iadd, 1) := by decide +kernel
theorem dX5_split_114 : decode cX5_split 114 = .ok (.istore 4, 2) := by decide +kernel
theorem dX5_split_116 : decode cX5_split 116 = .ok (.iinc 5 1, 3) := by decide +kernel
theorem dX5_split_119 : decode cX5_split 119 = .ok (.goto (-73), 3) := by decide +kernel
theorem dX5_split_122 : decode cX5_split 122 = .ok (.aload_n 0, 1) := by decide +kernel
theorem dX5_split_123 : decode cX5_split 123 = .ok (.getfield 148, 3) := by decide +kernel
theorem dX5_split_126 : decode cX5_split 126 = .ok (.ifCond .ne 7, 3) := by decide +kernel
theorem dX5_split_129 : decode cX5_split 129 = .ok (.iconst 1, 1) := by decide +kernel
theorem dX5_split_130 : decode cX5_split 130 = .ok (.goto 4, 3) := by decide +kernel
theorem dX5_split_133 : decode cX5_split 133 = .ok (.iconst 0, 1) := by decide +kernel
theorem dX5_split_134 : decode cX5_split 134 = .ok (.istore 5, 2) := by decide +kernel
theorem dX5_split_136 : decode cX5_split 136 = .ok (.aload_n 0, 1) := by decide +kernel
theorem dX5_split_137 : decode cX5_split 137 = .ok (.iload 4, 2) := by decide +kernel
theorem dX5_split_139 : decode cX5_split 139 = .ok (.aload_n 0, 1) := by decide +kernel
theorem dX5_split_140 : decode cX5_split 140 = .ok (.getfield 19, 3) := by decide +kernel
theorem dX5_split_143 : decode cX5_split 143 = .ok (.iload_n 1, 1) := by decide +kernel
theorem dX5_split_144 : decode cX5_split 144 = .ok (.iaload, 1) := by decide +kernel
theorem dX5_split_145 : decode cX5_split 145 = .ok (.invokevirtual 154, 3) := by decide +kernel
theorem dX5_split_148 : decode cX5_split 148 = .ok (.iload_n 3, 1) := by decide +kernel
theorem dX5_split_149 : decode cX5_split 149 = .ok (.ifCond .ne 42, 3) := by decide +kernel
theorem dX5_split_152 : decode cX5_split 152 = .ok (.iload 5, 2) := by decide +kernel
theorem dX5_split_154 : decode cX5_split 154 = .ok (.ifCond .ne 37, 3) := by decide +kernel
theorem dX5_split_157 : decode cX5_split 157 = .ok (.aload_n 0, 1) := by decide +kernel
theorem dX5_split_158 : decode cX5_split 158 = .ok (.getfield 148, 3) := by decide +kernel
theorem dX5_split_161 : decode cX5_split 161 = .ok (.ifCond .le 30, 3) := by decide +kernel
theorem dX5_split_164 : decode cX5_split 164 = .ok (.aload_n 0, 1) := by decide +kernel
theorem dX5_split_165 : decode cX5_split 165 = .ok (.getfield 34, 3) := by decide +kernel
theorem dX5_split_168 : decode cX5_split 168 = .ok (.aload_n 0, 1) := by decide +kernel
theorem dX5_split_169 : decode cX5_split 169 = .ok (.getfield 148, 3) := by decide +kernel
theorem dX5_split_172 : decode cX5_split 172 = .ok (.iconst 1, 1) := by decide +kernel
theorem dX5_split_173 : decode cX5_split 173 = .ok (.isub, 1) := by decide +kernel
theorem dX5_split_174 : decode cX5_split 174 = .ok (.iaload, 1) := by decide +kernel
theorem dX5_split_175 : decode cX5_split 175 = .ok (.ifCond .ne 16, 3) := by decide +kernel
theorem dX5_split_178 : decode cX5_split 178 = .ok (.aload_n 0, 1) := by decide +kernel
theorem dX5_split_179 : decode cX5_split 179 = .ok (.dup, 1) := by decide +kernel
theorem dX5_split_180 : decode cX5_split 180 = .ok (.getfield 148, 3) := by decide +kernel
theorem dX5_split_183 : decode cX5_split 183 = .ok (.iconst 1, 1) := by decide +kernel
theorem dX5_split_184 : decode cX5_split 184 = .ok (.isub, 1) := by decide +kernel
theorem dX5_split_185 : decode cX5_split 185 = .ok (.putfield 148, 3) := by decide +kernel
theorem dX5_split_188 : decode cX5_split 188 = .ok (.goto (-40), 3) := by decide +kernel
theorem dX5_split_191 : decode cX5_split 191 = .ok (.aload_n 0, 1) := by decide +kernel
theorem dX5_split_192 : decode cX5_split 192 = .ok (.getfield 148, 3) := by decide +kernel
theorem dX5_split_195 : decode cX5_split 195 = .ok (.ireturn, 1) := by decide +kernel
theorem dX5_parts_0 : decode cX5_parts 0 = .ok (.aload_n 0, 1) := by decide +kernel
theorem dX5_parts_1 : decode cX5_parts 1 = .ok (.getfield 148, 3) := by decide +kernel
theorem dX5_parts_4 : decode cX5_parts 4 = .ok (.ireturn, 1) := by decide +kernel
theorem dX5_addPart_0 : decode cX5_addPart 0 = .ok (.iconst 0, 1) := by decide +kernel
theorem dX5_addPart_1 : decode cX5_addPart 1 = .ok (.istore_n 2, 1) := by decide +kernel
theorem dX5_addPart_2 : decode cX5_addPart 2 = .ok (.iload_n 2, 1) := by decide +kernel
theorem dX5_addPart_3 : decode cX5_addPart 3 = .ok (.aload_n 0, 1) := by decide +kernel
theorem dX5_addPart_4 : decode cX5_addPart 4 = .ok (.getfield 34, 3) := by decide +kernel
theorem dX5_addPart_7 : decode cX5_addPart 7 = .ok (.iload_n 1, 1) := by decide +kernel
theorem dX5_addPart_8 : decode cX5_addPart 8 = .ok (.iaload, 1) := by decide +kernel
theorem dX5_addPart_9 : decode cX5_addPart 9 = .ok (.if_icmp .ge 41, 3) := by decide +kernel
theorem dX5_addPart_12 : decode cX5_addPart 12 = .ok (.aload_n 0, 1) := by decide +kernel
theorem dX5_addPart_13 : decode cX5_addPart 13 = .ok (.getfield 22, 3) := by decide +kernel
theorem dX5_addPart_16 : decode cX5_addPart 16 = .ok (.aload_n 0, 1) := by decide +kernel
theorem dX5_addPart_17 : decode cX5_addPart 17 = .ok (.getfield 62, 3) := by decide +kernel
theorem dX5_addPart_20 : decode cX5_addPart 20 = .ok (.aload_n 0, 1) := by decide +kernel
theorem dX5_addPart_21 : decode cX5_addPart 21 = .ok (.getfield 28, 3) := by decide +kernel
theorem dX5_addPart_24 : decode cX5_addPart 24 = .ok (.aload_n 0, 1) := by decide +kernel
theorem dX5_addPart_25 : decode cX5_addPart 25 = .ok (.getfield 31, 3) := by decide +kernel
theorem dX5_addPart_28 : decode cX5_addPart 28 = .ok (.iload_n 1, 1) := by decide +kernel
theorem dX5_addPart_29 : decode cX5_addPart 29 = .ok (.iaload, 1) := by decide +kernel
theorem dX5_addPart_30 : decode cX5_addPart 30 = .ok (.iload_n 2, 1) := by decide +kernel
theorem dX5_addPart_31 : decode cX5_addPart 31 = .ok (.iadd, 1) := by decide +kernel
theorem dX5_addPart_32 : decode cX5_addPart 32 = .ok (.iaload, 1) := by decide +kernel
theorem dX5_addPart_33 : decode cX5_addPart 33 = .ok (.iastore, 1) := by decide +kernel
theorem dX5_addPart_34 : decode cX5_addPart 34 = .ok (.aload_n 0, 1) := by decide +kernel
theorem dX5_addPart_35 : decode cX5_addPart 35 = .ok (.dup, 1) := by decide +kernel
theorem dX5_addPart_36 : decode cX5_addPart 36 = .ok (.getfield 62, 3) := by decide +kernel
theorem dX5_addPart_39 : decode cX5_addPart 39 = .ok (.iconst 1, 1) := by decide +kernel
theorem dX5_addPart_40 : decode cX5_addPart 40 = .ok (.iadd, 1) := by decide +kernel
theorem dX5_addPart_41 : decode cX5_addPart 41 = .ok (.putfield 62, 3) := by decide +kernel
theorem dX5_addPart_44 : decode cX5_addPart 44 = .ok (.iinc 2 1, 3) := by decide +kernel
theorem dX5_addPart_47 : decode cX5_addPart 47 = .ok (.goto (-45), 3) := by decide +kernel
theorem dX5_addPart_50 : decode cX5_addPart 50 = .ok (.return_, 1) := by decide +kernel
theorem dX5_partTo_0 : decode cX5_partTo 0 = .ok (.iload_n 2, 1) := by decide +kernel
theorem dX5_partTo_1 : decode cX5_partTo 1 = .ok (.invokestatic 87, 3) := by decide +kernel
theorem dX5_partTo_4 : decode cX5_partTo 4 = .ok (.ifCond .ne 7, 3) := by decide +kernel
theorem dX5_partTo_7 : decode cX5_partTo 7 = .ok (.sipush (-1001), 3) := by decide +kernel
theorem dX5_partTo_10 : decode cX5_partTo 10 = .ok (.ireturn, 1) := by decide +kernel
theorem dX5_partTo_11 : decode cX5_partTo 11 = .ok (.iload_n 1, 1) := by decide +kernel
theorem dX5_partTo_12 : decode cX5_partTo 12 = .ok (.i2l, 1) := by decide +kernel
theorem dX5_partTo_13 : decode cX5_partTo 13 = .ok (.lconst 0, 1) := by decide +kernel
theorem dX5_partTo_14 : decode cX5_partTo 14 = .ok (.aload_n 0, 1) := by decide +kernel
theorem dX5_partTo_15 : decode cX5_partTo 15 = .ok (.getfield 148, 3) := by decide +kernel
theorem dX5_partTo_18 : decode cX5_partTo 18 = .ok (.iconst 1, 1) := by decide +kernel
theorem dX5_partTo_19 : decode cX5_partTo 19 = .ok (.isub, 1) := by decide +kernel
theorem dX5_partTo_20 : decode cX5_partTo 20 = .ok (.i2l, 1) := by decide +kernel
theorem dX5_partTo_21 : decode cX5_partTo 21 = .ok (.invokestatic 54, 3) := by decide +kernel
theorem dX5_partTo_24 : decode cX5_partTo 24 = .ok (.ifCond .ne 5, 3) := by decide +kernel
theorem dX5_partTo_27 : decode cX5_partTo 27 = .ok (.iconst (-1), 1) := by decide +kernel
theorem dX5_partTo_28 : decode cX5_partTo 28 = .ok (.ireturn, 1) := by decide +kernel
theorem dX5_partTo_29 : decode cX5_partTo 29 = .ok (.aload_n 0, 1) := by decide +kernel
theorem dX5_partTo_30 : decode cX5_partTo 30 = .ok (.iconst 0, 1) := by decide +kernel
theorem dX5_partTo_31 : decode cX5_partTo 31 = .ok (.putfield 62, 3) := by decide +kernel
theorem dX5_partTo_34 : decode cX5_partTo 34 = .ok (.aload_n 0, 1) := by decide +kernel
theorem dX5_partTo_35 : decode cX5_partTo 35 = .ok (.iload_n 1, 1) := by decide +kernel
theorem dX5_partTo_36 : decode cX5_partTo 36 = .ok (.invokevirtual 157, 3) := by decide +kernel
theorem dX5_partTo_39 : decode cX5_partTo 39 = .ok (.aload_n 0, 1) := by decide +kernel
theorem dX5_partTo_40 : decode cX5_partTo 40 = .ok (.iload_n 2, 1) := by decide +kernel
theorem dX5_partTo_41 : decode cX5_partTo 41 = .ok (.invokevirtual 118, 3) := by decide +kernel
theorem dX5_partTo_44 : decode cX5_partTo 44 = .ok (.ireturn, 1) := by decide +kernel
theorem dX5_joined_0 : decode cX5_joined 0 = .ok (.iload_n 2, 1) := by decide +kernel
theorem dX5_joined_1 : decode cX5_joined 1 = .ok (.invokestatic 87, 3) := by decide +kernel
theorem dX5_joined_4 : decode cX5_joined 4 = .ok (.ifCond .ne 7, 3) := by decide +kernel
theorem dX5_joined_7 : decode cX5_joined 7 = .ok (.sipush (-1001), 3) := by decide +kernel
theorem dX5_joined_10 : decode cX5_joined 10 = .ok (.ireturn, 1) := by decide +kernel
theorem dX5_joined_11 : decode cX5_joined 11 = .ok (.iload_n 1, 1) := by decide +kernel
theorem dX5_joined_12 : decode cX5_joined 12 = .ok (.invokestatic 74, 3) := by decide +kernel
theorem dX5_joined_15 : decode cX5_joined 15 = .ok (.ifCond .ne 7, 3) := by decide +kernel
theorem dX5_joined_18 : decode cX5_joined 18 = .ok (.sipush (-1002), 3) := by decide +kernel
theorem dX5_joined_21 : decode cX5_joined 21 = .ok (.ireturn, 1) := by decide +kernel
theorem dX5_joined_22 : decode cX5_joined 22 = .ok (.aload_n 0, 1) := by decide +kernel
theorem dX5_joined_23 : decode cX5_joined 23 = .ok (.iconst 0, 1) := by decide +kernel
theorem dX5_joined_24 : decode cX5_joined 24 = .ok (.putfield 62, 3) := by decide +kernel
theorem dX5_joined_27 : decode cX5_joined 27 = .ok (.iconst 0, 1) := by decide +kernel
theorem dX5_joined_28 : decode cX5_joined 28 = .ok (.istore_n 3, 1) := by decide +kernel
theorem dX5_joined_29 : decode cX5_joined 29 = .ok (.iload_n 3, 1) := by decide +kernel
theorem dX5_joined_30 : decode cX5_joined 30 = .ok (.aload_n 0, 1) := by decide +kernel
theorem dX5_joined_31 : decode cX5_joined 31 = .ok (.getfield 148, 3) := by decide +kernel
theorem dX5_joined_34 : decode cX5_joined 34 = .ok (.if_icmp .ge 38, 3) := by decide +kernel
theorem dX5_joined_37 : decode cX5_joined 37 = .ok (.iload_n 3, 1) := by decide +kernel
theorem dX5_joined_38 : decode cX5_joined 38 = .ok (.ifCond .le 23, 3) := by decide +kernel
theorem dX5_joined_41 : decode cX5_joined 41 = .ok (.aload_n 0, 1) := by decide +kernel
theorem dX5_joined_42 : decode cX5_joined 42 = .ok (.getfield 22, 3) := by decide +kernel
theorem dX5_joined_45 : decode cX5_joined 45 = .ok (.aload_n 0, 1) := by decide +kernel
theorem dX5_joined_46 : decode cX5_joined 46 = .ok (.getfield 62, 3) := by decide +kernel
theorem dX5_joined_49 : decode cX5_joined 49 = .ok (.iload_n 1, 1) := by decide +kernel
theorem dX5_joined_50 : decode cX5_joined 50 = .ok (.iastore, 1) := by decide +kernel
theorem dX5_joined_51 : decode cX5_joined 51 = .ok (.aload_n 0, 1) := by decide +kernel
theorem dX5_joined_52 : decode cX5_joined 52 = .ok (.dup, 1) := by decide +kernel
theorem dX5_joined_53 : decode cX5_joined 53 = .ok (.getfield 62, 3) := by decide +kernel
theorem dX5_joined_56 : decode cX5_joined 56 = .ok (.iconst 1, 1) := by decide +kernel
theorem dX5_joined_57 : decode cX5_joined 57 = .ok (.iadd, 1) := by decide +kernel
theorem dX5_joined_58 : decode cX5_joined 58 = .ok (.putfield 62, 3) := by decide +kernel
theorem dX5_joined_61 : decode cX5_joined 61 = .ok (.aload_n 0, 1) := by decide +kernel
theorem dX5_joined_62 : decode cX5_joined 62 = .ok (.iload_n 3, 1) := by decide +kernel
theorem dX5_joined_63 : decode cX5_joined 63 = .ok (.invokevirtual 157, 3) := by decide +kernel
theorem dX5_joined_66 : decode cX5_joined 66 = .ok (.iinc 3 1, 3) := by decide +kernel
theorem dX5_joined_69 : decode cX5_joined 69 = .ok (.goto (-40), 3) := by decide +kernel
theorem dX5_joined_72 : decode cX5_joined 72 = .ok (.aload_n 0, 1) := by decide +kernel
theorem dX5_joined_73 : decode cX5_joined 73 = .ok (.iload_n 2, 1) := by decide +kernel
theorem dX5_joined_74 : decode cX5_joined 74 = .ok (.invokevirtual 118, 3) := by decide +kernel
theorem dX5_joined_77 : decode cX5_joined 77 = .ok (.ireturn, 1) := by decide +kernel
theorem dX5_isCutter_0 : decode cX5_isCutter 0 = .ok (.iload_n 0, 1) := by decide +kernel
theorem dX5_isCutter_1 : decode cX5_isCutter 1 = .ok (.i2l, 1) := by decide +kernel
theorem dX5_isCutter_2 : decode cX5_isCutter 2 = .ok (.lconst 0, 1) := by decide +kernel
theorem dX5_isCutter_3 : decode cX5_isCutter 3 = .ok (.lconst 1, 1) := by decide +kernel
theorem dX5_isCutter_4 : decode cX5_isCutter 4 = .ok (.invokestatic 54, 3) := by decide +kernel
theorem dX5_isCutter_7 : decode cX5_isCutter 7 = .ok (.ireturn, 1) := by decide +kernel
theorem dX5_isSeparatorAt_0 : decode cX5_isSeparatorAt 0 = .ok (.aload_n 0, 1) := by decide +kernel
theorem dX5_isSeparatorAt_1 : decode cX5_isSeparatorAt 1 = .ok (.getfield 43, 3) := by decide +kernel
theorem dX5_isSeparatorAt_4 : decode cX5_isSeparatorAt 4 = .ok (.sipush 256, 3) := by decide +kernel
theorem dX5_isSeparatorAt_7 : decode cX5_isSeparatorAt 7 = .ok (.iload_n 1, 1) := by decide +kernel
theorem dX5_isSeparatorAt_8 : decode cX5_isSeparatorAt 8 = .ok (.imul, 1) := by decide +kernel
theorem dX5_isSeparatorAt_9 : decode cX5_isSeparatorAt 9 = .ok (.aload_n 0, 1) := by decide +kernel
theorem dX5_isSeparatorAt_10 : decode cX5_isSeparatorAt 10 = .ok (.getfield 37, 3) := by decide +kernel
theorem dX5_isSeparatorAt_13 : decode cX5_isSeparatorAt 13 = .ok (.sipush 200, 3) := by decide +kernel
theorem dX5_isSeparatorAt_16 : decode cX5_isSeparatorAt 16 = .ok (.iload_n 1, 1) := by decide +kernel
theorem dX5_isSeparatorAt_17 : decode cX5_isSeparatorAt 17 = .ok (.imul, 1) := by decide +kernel
theorem dX5_isSeparatorAt_18 : decode cX5_isSeparatorAt 18 = .ok (.iload_n 2, 1) := by decide +kernel
theorem dX5_isSeparatorAt_19 : decode cX5_isSeparatorAt 19 = .ok (.iadd, 1) := by decide +kernel
theorem dX5_isSeparatorAt_20 : decode cX5_isSeparatorAt 20 = .ok (.iaload, 1) := by decide +kernel
theorem dX5_isSeparatorAt_21 : decode cX5_isSeparatorAt 21 = .ok (.iadd, 1) := by decide +kernel
theorem dX5_isSeparatorAt_22 : decode cX5_isSeparatorAt 22 = .ok (.iaload, 1) := by decide +kernel
theorem dX5_isSeparatorAt_23 : decode cX5_isSeparatorAt 23 = .ok (.iconst 1, 1) := by decide +kernel
theorem dX5_isSeparatorAt_24 : decode cX5_isSeparatorAt 24 = .ok (.if_icmp .ne 7, 3) := by decide +kernel
theorem dX5_isSeparatorAt_27 : decode cX5_isSeparatorAt 27 = .ok (.iconst 1, 1) := by decide +kernel
theorem dX5_isSeparatorAt_28 : decode cX5_isSeparatorAt 28 = .ok (.goto 4, 3) := by decide +kernel
theorem dX5_isSeparatorAt_31 : decode cX5_isSeparatorAt 31 = .ok (.iconst 0, 1) := by decide +kernel
theorem dX5_isSeparatorAt_32 : decode cX5_isSeparatorAt 32 = .ok (.ireturn, 1) := by decide +kernel
theorem dX5_laySeparators_0 : decode cX5_laySeparators 0 = .ok (.iconst 0, 1) := by decide +kernel
theorem dX5_laySeparators_1 : decode cX5_laySeparators 1 = .ok (.istore_n 3, 1) := by decide +kernel
theorem dX5_laySeparators_2 : decode cX5_laySeparators 2 = .ok (.iload_n 3, 1) := by decide +kernel
theorem dX5_laySeparators_3 : decode cX5_laySeparators 3 = .ok (.sipush 256, 3) := by decide +kernel
theorem dX5_laySeparators_6 : decode cX5_laySeparators 6 = .ok (.if_icmp .ge 22, 3) := by decide +kernel
theorem dX5_laySeparators_9 : decode cX5_laySeparators 9 = .ok (.aload_n 0, 1) := by decide +kernel
theorem dX5_laySeparators_10 : decode cX5_laySeparators 10 = .ok (.getfield 43, 3) := by decide +kernel
theorem dX5_laySeparators_13 : decode cX5_laySeparators 13 = .ok (.sipush 256, 3) := by decide +kernel
theorem dX5_laySeparators_16 : decode cX5_laySeparators 16 = .ok (.iload_n 1, 1) := by decide +kernel
theorem dX5_laySeparators_17 : decode cX5_laySeparators 17 = .ok (.imul, 1) := by decide +kernel
theorem dX5_laySeparators_18 : decode cX5_laySeparators 18 = .ok (.iload_n 3, 1) := by decide +kernel
theorem dX5_laySeparators_19 : decode cX5_laySeparators 19 = .ok (.iadd, 1) := by decide +kernel
theorem dX5_laySeparators_20 : decode cX5_laySeparators 20 = .ok (.iconst 0, 1) := by decide +kernel
theorem dX5_laySeparators_21 : decode cX5_laySeparators 21 = .ok (.iastore, 1) := by decide +kernel
theorem dX5_laySeparators_22 : decode cX5_laySeparators 22 = .ok (.iinc 3 1, 3) := by decide +kernel
theorem dX5_laySeparators_25 : decode cX5_laySeparators 25 = .ok (.goto (-23), 3) := by decide +kernel
theorem dX5_laySeparators_28 : decode cX5_laySeparators 28 = .ok (.iconst 0, 1) := by decide +kernel
theorem dX5_laySeparators_29 : decode cX5_laySeparators 29 = .ok (.istore_n 3, 1) := by decide +kernel
theorem dX5_laySeparators_30 : decode cX5_laySeparators 30 = .ok (.iload_n 3, 1) := by decide +kernel
theorem dX5_laySeparators_31 : decode cX5_laySeparators 31 = .ok (.aload_n 0, 1) := by decide +kernel
theorem dX5_laySeparators_32 : decode cX5_laySeparators 32 = .ok (.getfield 19, 3) := by decide +kernel
theorem dX5_laySeparators_35 : decode cX5_laySeparators 35 = .ok (.iload_n 2, 1) := by decide +kernel
theorem dX5_laySeparators_36 : decode cX5_laySeparators 36 = .ok (.iaload, 1) := by decide +kernel
theorem dX5_laySeparators_37 : decode cX5_laySeparators 37 = .ok (.if_icmp .ge 33, 3) := by decide +kernel
theorem dX5_laySeparators_40 : decode cX5_laySeparators 40 = .ok (.aload_n 0, 1) := by decide +kernel
theorem dX5_laySeparators_41 : decode cX5_laySeparators 41 = .ok (.getfield 43, 3) := by decide +kernel
theorem dX5_laySeparators_44 : decode cX5_laySeparators 44 = .ok (.sipush 256, 3) := by decide +kernel
theorem dX5_laySeparators_47 : decode cX5_laySeparators 47 = .ok (.iload_n 1, 1) := by decide +kernel
theorem dX5_laySeparators_48 : decode cX5_laySeparators 48 = .ok (.imul, 1) := by decide +kernel
theorem dX5_laySeparators_49 : decode cX5_laySeparators 49 = .ok (.aload_n 0, 1) := by decide +kernel
theorem dX5_laySeparators_50 : decode cX5_laySeparators 50 = .ok (.getfield 16, 3) := by decide +kernel
theorem dX5_laySeparators_53 : decode cX5_laySeparators 53 = .ok (.sipush 200, 3) := by decide +kernel
theorem dX5_laySeparators_56 : decode cX5_laySeparators 56 = .ok (.iload_n 2, 1) := by decide +kernel
theorem dX5_laySeparators_57 : decode cX5_laySeparators 57 = .ok (.imul, 1) := by decide +kernel
theorem dX5_laySeparators_58 : decode cX5_laySeparators 58 = .ok (.iload_n 3, 1) := by decide +kernel
theorem dX5_laySeparators_59 : decode cX5_laySeparators 59 = .ok (.iadd, 1) := by decide +kernel
theorem dX5_laySeparators_60 : decode cX5_laySeparators 60 = .ok (.iaload, 1) := by decide +kernel
theorem dX5_laySeparators_61 : decode cX5_laySeparators 61 = .ok (.iadd, 1) := by decide +kernel
theorem dX5_laySeparators_62 : decode cX5_laySeparators 62 = .ok (.iconst 1, 1) := by decide +kernel
theorem dX5_laySeparators_63 : decode cX5_laySeparators 63 = .ok (.iastore, 1) := by decide +kernel
theorem dX5_laySeparators_64 : decode cX5_laySeparators 64 = .ok (.iinc 3 1, 3) := by decide +kernel
theorem dX5_laySeparators_67 : decode cX5_laySeparators 67 = .ok (.goto (-37), 3) := by decide +kernel
theorem dX5_laySeparators_70 : decode cX5_laySeparators 70 = .ok (.return_, 1) := by decide +kernel
theorem dX5_beginOf_0 : decode cX5_beginOf 0 = .ok (.iload_n 2, 1) := by decide +kernel
theorem dX5_beginOf_1 : decode cX5_beginOf 1 = .ok (.istore_n 3, 1) := by decide +kernel
theorem dX5_beginOf_2 : decode cX5_beginOf 2 = .ok (.aload_n 0, 1) := by decide +kernel
theorem dX5_beginOf_3 : decode cX5_beginOf 3 = .ok (.getfield 46, 3) := by decide +kernel
theorem dX5_beginOf_6 : decode cX5_beginOf 6 = .ok (.iload_n 1, 1) := by decide +kernel
theorem dX5_beginOf_7 : decode cX5_beginOf 7 = .ok (.iaload, 1) := by decide +kernel
theorem dX5_beginOf_8 : decode cX5_beginOf 8 = .ok (.ifCond .ne 28, 3) := by decide +kernel
theorem dX5_beginOf_11 : decode cX5_beginOf 11 = .ok (.iload_n 3, 1) := by decide +kernel
theorem dX5_beginOf_12 : decode cX5_beginOf 12 = .ok (.aload_n 0, 1) := by decide +kernel
theorem dX5_beginOf_13 : decode cX5_beginOf 13 = .ok (.getfield 40, 3) := by decide +kernel
theorem dX5_beginOf_16 : decode cX5_beginOf 16 = .ok (.iload_n 1, 1) := by decide +kernel
theorem dX5_beginOf_17 : decode cX5_beginOf 17 = .ok (.iaload, 1) := by decide +kernel
theorem dX5_beginOf_18 : decode cX5_beginOf 18 = .ok (.if_icmp .ge 18, 3) := by decide +kernel
theorem dX5_beginOf_21 : decode cX5_beginOf 21 = .ok (.aload_n 0, 1) := by decide +kernel
theorem dX5_beginOf_22 : decode cX5_beginOf 22 = .ok (.iload_n 1, 1) := by decide +kernel
theorem dX5_beginOf_23 : decode cX5_beginOf 23 = .ok (.iload_n 3, 1) := by decide +kernel
theorem dX5_beginOf_24 : decode cX5_beginOf 24 = .ok (.invokevirtual 160, 3) := by decide +kernel
theorem dX5_beginOf_27 : decode cX5_beginOf 27 = .ok (.ifCond .eq 9, 3) := by decide +kernel
theorem dX5_beginOf_30 : decode cX5_beginOf 30 = .ok (.iinc 3 1, 3) := by decide +kernel
theorem dX5_beginOf_33 : decode cX5_beginOf 33 = .ok (.goto (-31), 3) := by decide +kernel
theorem dX5_beginOf_36 : decode cX5_beginOf 36 = .ok (.iload_n 3, 1) := by decide +kernel
theorem dX5_beginOf_37 : decode cX5_beginOf 37 = .ok (.ireturn, 1) := by decide +kernel
theorem dX5_behindOf_0 : decode cX5_behindOf 0 = .ok (.iload_n 2, 1) := by decide +kernel
theorem dX5_behindOf_1 : decode cX5_behindOf 1 = .ok (.istore_n 3, 1) := by decide +kernel
theorem dX5_behindOf_2 : decode cX5_behindOf 2 = .ok (.iload_n 3, 1) := by decide +kernel
theorem dX5_behindOf_3 : decode cX5_behindOf 3 = .ok (.aload_n 0, 1) := by decide +kernel
theorem dX5_behindOf_4 : decode cX5_behindOf 4 = .ok (.getfield 40, 3) := by decide +kernel
theorem dX5_behindOf_7 : decode cX5_behindOf 7 = .ok (.iload_n 1, 1) := by decide +kernel
theorem dX5_behindOf_8 : decode cX5_behindOf 8 = .ok (.iaload, 1) := by decide +kernel
theorem dX5_behindOf_9 : decode cX5_behindOf 9 = .ok (.if_icmp .ge 18, 3) := by decide +kernel
theorem dX5_behindOf_12 : decode cX5_behindOf 12 = .ok (.aload_n 0, 1) := by decide +kernel
theorem dX5_behindOf_13 : decode cX5_behindOf 13 = .ok (.iload_n 1, 1) := by decide +kernel
theorem dX5_behindOf_14 : decode cX5_behindOf 14 = .ok (.iload_n 3, 1) := by decide +kernel
theorem dX5_behindOf_15 : decode cX5_behindOf 15 = .ok (.invokevirtual 160, 3) := by decide +kernel
theorem dX5_behindOf_18 : decode cX5_behindOf 18 = .ok (.ifCond .ne 9, 3) := by decide +kernel
theorem dX5_behindOf_21 : decode cX5_behindOf 21 = .ok (.iinc 3 1, 3) := by decide +kernel
theorem dX5_behindOf_24 : decode cX5_behindOf 24 = .ok (.goto (-22), 3) := by decide +kernel
theorem dX5_behindOf_27 : decode cX5_behindOf 27 = .ok (.iload_n 3, 1) := by decide +kernel
theorem dX5_behindOf_28 : decode cX5_behindOf 28 = .ok (.iload_n 2, 1) := by decide +kernel
theorem dX5_behindOf_29 : decode cX5_behindOf 29 = .ok (.if_icmp .ne 9, 3) := by decide +kernel
theorem dX5_behindOf_32 : decode cX5_behindOf 32 = .ok (.iload_n 2, 1) := by decide +kernel
theorem dX5_behindOf_33 : decode cX5_behindOf 33 = .ok (.iconst 1, 1) := by decide +kernel
theorem dX5_behindOf_34 : decode cX5_behindOf 34 = .ok (.iadd, 1) := by decide +kernel
theorem dX5_behindOf_35 : decode cX5_behindOf 35 = .ok (.goto 4, 3) := by decide +kernel
theorem dX5_behindOf_38 : decode cX5_behindOf 38 = .ok (.iload_n 3, 1) := by decide +kernel
theorem dX5_behindOf_39 : decode cX5_behindOf 39 = .ok (.ireturn, 1) := by decide +kernel
theorem dX5_leftOf_0 : decode cX5_leftOf 0 = .ok (.iconst 0, 1) := by decide +kernel
theorem dX5_leftOf_1 : decode cX5_leftOf 1 = .ok (.istore_n 2, 1) := by decide +kernel
theorem dX5_leftOf_2 : decode cX5_leftOf 2 = .ok (.aload_n 0, 1) := by decide +kernel
theorem dX5_leftOf_3 : decode cX5_leftOf 3 = .ok (.iload_n 1, 1) := by decide +kernel
theorem dX5_leftOf_4 : decode cX5_leftOf 4 = .ok (.aload_n 0, 1) := by decide +kernel
theorem dX5_leftOf_5 : decode cX5_leftOf 5 = .ok (.getfield 49, 3) := by decide +kernel
theorem dX5_leftOf_8 : decode cX5_leftOf 8 = .ok (.iload_n 1, 1) := by decide +kernel
theorem dX5_leftOf_9 : decode cX5_leftOf 9 = .ok (.iaload, 1) := by decide +kernel
theorem dX5_leftOf_10 : decode cX5_leftOf 10 = .ok (.invokevirtual 164, 3) := by decide +kernel
theorem dX5_leftOf_13 : decode cX5_leftOf 13 = .ok (.istore_n 3, 1) := by decide +kernel
theorem dX5_leftOf_14 : decode cX5_leftOf 14 = .ok (.iload_n 3, 1) := by decide +kernel
theorem dX5_leftOf_15 : decode cX5_leftOf 15 = .ok (.aload_n 0, 1) := by decide +kernel
theorem dX5_leftOf_16 : decode cX5_leftOf 16 = .ok (.getfield 40, 3) := by decide +kernel
theorem dX5_leftOf_19 : decode cX5_leftOf 19 = .ok (.iload_n 1, 1) := by decide +kernel
theorem dX5_leftOf_20 : decode cX5_leftOf 20 = .ok (.iaload, 1) := by decide +kernel
theorem dX5_leftOf_21 : decode cX5_leftOf 21 = .ok (.if_icmp .ge 21, 3) := by decide +kernel
theorem dX5_leftOf_24 : decode cX5_leftOf 24 = .ok (.iinc 2 1, 3) := by decide +kernel
theorem dX5_leftOf_27 : decode cX5_leftOf 27 = .ok (.aload_n 0, 1) := by decide +kernel
theorem dX5_leftOf_28 : decode cX5_leftOf 28 = .ok (.iload_n 1, 1) := by decide +kernel
theorem dX5_leftOf_29 : decode cX5_leftOf 29 = .ok (.aload_n 0, 1) := by decide +kernel
theorem dX5_leftOf_30 : decode cX5_leftOf 30 = .ok (.iload_n 1, 1) := by decide +kernel
theorem dX5_leftOf_31 : decode cX5_leftOf 31 = .ok (.iload_n 3, 1) := by decide +kernel
theorem dX5_leftOf_32 : decode cX5_leftOf 32 = .ok (.invokevirtual 167, 3) := by decide +kernel
theorem dX5_leftOf_35 : decode cX5_leftOf 35 = .ok (.invokevirtual 164, 3) := by decide +kernel
theorem dX5_leftOf_38 : decode cX5_leftOf 38 = .ok (.istore_n 3, 1) := by decide +kernel
theorem dX5_leftOf_39 : decode cX5_leftOf 39 = .ok (.goto (-25), 3) := by decide +kernel
theorem dX5_leftOf_42 : decode cX5_leftOf 42 = .ok (.iload_n 2, 1) := by decide +kernel
theorem dX5_leftOf_43 : decode cX5_leftOf 43 = .ok (.ireturn, 1) := by decide +kernel
theorem dX5_cutter_0 : decode cX5_cutter 0 = .ok (.iload_n 1, 1) := by decide +kernel
theorem dX5_cutter_1 : decode cX5_cutter 1 = .ok (.invokestatic 170, 3) := by decide +kernel
theorem dX5_cutter_4 : decode cX5_cutter 4 = .ok (.ifCond .eq 17, 3) := by decide +kernel
theorem dX5_cutter_7 : decode cX5_cutter 7 = .ok (.iload_n 2, 1) := by decide +kernel
theorem dX5_cutter_8 : decode cX5_cutter 8 = .ok (.invokestatic 87, 3) := by decide +kernel
theorem dX5_cutter_11 : decode cX5_cutter 11 = .ok (.ifCond .eq 10, 3) := by decide +kernel
theorem dX5_cutter_14 : decode cX5_cutter 14 = .ok (.iload_n 3, 1) := by decide +kernel
theorem dX5_cutter_15 : decode cX5_cutter 15 = .ok (.invokestatic 87, 3) := by decide +kernel
theorem dX5_cutter_18 : decode cX5_cutter 18 = .ok (.ifCond .ne 7, 3) := by decide +kernel
theorem dX5_cutter_21 : decode cX5_cutter 21 = .ok (.sipush (-1001), 3) := by decide +kernel
theorem dX5_cutter_24 : decode cX5_cutter 24 = .ok (.ireturn, 1) := by decide +kernel
theorem dX5_cutter_25 : decode cX5_cutter 25 = .ok (.aload_n 0, 1) := by decide +kernel
theorem dX5_cutter_26 : decode cX5_cutter 26 = .ok (.getfield 19, 3) := by decide +kernel
theorem dX5_cutter_29 : decode cX5_cutter 29 = .ok (.iload_n 2, 1) := by decide +kernel
theorem dX5_cutter_30 : decode cX5_cutter 30 = .ok (.iaload, 1) := by decide +kernel
theorem dX5_cutter_31 : decode cX5_cutter 31 = .ok (.ifCond .lt 12, 3) := by decide +kernel
theorem dX5_cutter_34 : decode cX5_cutter 34 = .ok (.aload_n 0, 1) := by decide +kernel
theorem dX5_cutter_35 : decode cX5_cutter 35 = .ok (.getfield 19, 3) := by decide +kernel
theorem dX5_cutter_38 : decode cX5_cutter 38 = .ok (.iload_n 3, 1) := by decide +kernel
theorem dX5_cutter_39 : decode cX5_cutter 39 = .ok (.iaload, 1) := by decide +kernel
theorem dX5_cutter_40 : decode cX5_cutter 40 = .ok (.ifCond .ge 7, 3) := by decide +kernel
theorem dX5_cutter_43 : decode cX5_cutter 43 = .ok (.sipush (-1003), 3) := by decide +kernel
theorem dX5_cutter_46 : decode cX5_cutter 46 = .ok (.ireturn, 1) := by decide +kernel
theorem dX5_cutter_47 : decode cX5_cutter 47 = .ok (.aload_n 0, 1) := by decide +kernel
theorem dX5_cutter_48 : decode cX5_cutter 48 = .ok (.getfield 40, 3) := by decide +kernel
theorem dX5_cutter_51 : decode cX5_cutter 51 = .ok (.iload_n 1, 1) := by decide +kernel
theorem dX5_cutter_52 : decode cX5_cutter 52 = .ok (.aload_n 0, 1) := by decide +kernel
theorem dX5_cutter_53 : decode cX5_cutter 53 = .ok (.getfield 19, 3) := by decide +kernel
theorem dX5_cutter_56 : decode cX5_cutter 56 = .ok (.iload_n 2, 1) := by decide +kernel
theorem dX5_cutter_57 : decode cX5_cutter 57 = .ok (.iaload, 1) := by decide +kernel
theorem dX5_cutter_58 : decode cX5_cutter 58 = .ok (.iastore, 1) := by decide +kernel
theorem dX5_cutter_59 : decode cX5_cutter 59 = .ok (.iconst 0, 1) := by decide +kernel
theorem dX5_cutter_60 : decode cX5_cutter 60 = .ok (.istore 5, 2) := by decide +kernel
theorem dX5_cutter_62 : decode cX5_cutter 62 = .ok (.iload 5, 2) := by decide +kernel
theorem dX5_cutter_64 : decode cX5_cutter 64 = .ok (.aload_n 0, 1) := by decide +kernel
theorem dX5_cutter_65 : decode cX5_cutter 65 = .ok (.getfield 19, 3) := by decide +kernel
theorem dX5_cutter_68 : decode cX5_cutter 68 = .ok (.iload_n 2, 1) := by decide +kernel
theorem dX5_cutter_69 : decode cX5_cutter 69 = .ok (.iaload, 1) := by decide +kernel
theorem dX5_cutter_70 : decode cX5_cutter 70 = .ok (.if_icmp .ge 35, 3) := by decide +kernel
theorem dX5_cutter_73 : decode cX5_cutter 73 = .ok (.aload_n 0, 1) := by decide +kernel
theorem dX5_cutter_74 : decode cX5_cutter 74 = .ok (.getfield 37, 3) := by decide +kernel
theorem dX5_cutter_77 : decode cX5_cutter 77 = .ok (.sipush 200, 3) := by decide +kernel
theorem dX5_cutter_80 : decode cX5_cutter 80 = .ok (.iload_n 1, 1) := by decide +kernel
theorem dX5_cutter_81 : decode cX5_cutter 81 = .ok (.imul, 1) := by decide +kernel
theorem dX5_cutter_82 : decode cX5_cutter 82 = .ok (.iload 5, 2) := by decide +kernel
theorem dX5_cutter_84 : decode cX5_cutter 84 = .ok (.iadd, 1) := by decide +kernel
theorem dX5_cutter_85 : decode cX5_cutter 85 = .ok (.aload_n 0, 1) := by decide +kernel
theorem dX5_cutter_86 : decode cX5_cutter 86 = .ok (.getfield 16, 3) := by decide +kernel
theorem dX5_cutter_89 : decode cX5_cutter 89 = .ok (.sipush 200, 3) := by decide +kernel
theorem dX5_cutter_92 : decode cX5_cutter 92 = .ok (.iload_n 2, 1) := by decide +kernel
theorem dX5_cutter_93 : decode cX5_cutter 93 = .ok (.imul, 1) := by decide +kernel
theorem dX5_cutter_94 : decode cX5_cutter 94 = .ok (.iload 5, 2) := by decide +kernel
theorem dX5_cutter_96 : decode cX5_cutter 96 = .ok (.iadd, 1) := by decide +kernel
theorem dX5_cutter_97 : decode cX5_cutter 97 = .ok (.iaload, 1) := by decide +kernel
theorem dX5_cutter_98 : decode cX5_cutter 98 = .ok (.iastore, 1) := by decide +kernel
theorem dX5_cutter_99 : decode cX5_cutter 99 = .ok (.iinc 5 1, 3) := by decide +kernel
theorem dX5_cutter_102 : decode cX5_cutter 102 = .ok (.goto (-40), 3) := by decide +kernel
theorem dX5_cutter_105 : decode cX5_cutter 105 = .ok (.aload_n 0, 1) := by decide +kernel
theorem dX5_cutter_106 : decode cX5_cutter 106 = .ok (.iload_n 1, 1) := by decide +kernel
theorem dX5_cutter_107 : decode cX5_cutter 107 = .ok (.iload_n 3, 1) := by decide +kernel
theorem dX5_cutter_108 : decode cX5_cutter 108 = .ok (.invokevirtual 173, 3) := by decide +kernel
theorem dX5_cutter_111 : decode cX5_cutter 111 = .ok (.aload_n 0, 1) := by decide +kernel
theorem dX5_cutter_112 : decode cX5_cutter 112 = .ok (.getfield 46, 3) := by decide +kernel
theorem dX5_cutter_115 : decode cX5_cutter 115 = .ok (.iload_n 1, 1) := by decide +kernel
theorem dX5_cutter_116 : decode cX5_cutter 116 = .ok (.iload 4, 2) := by decide +kernel
theorem dX5_cutter_118 : decode cX5_cutter 118 = .ok (.ifCond .eq 7, 3) := by decide +kernel
theorem dX5_cutter_121 : decode cX5_cutter 121 = .ok (.iconst 1, 1) := by decide +kernel
theorem dX5_cutter_122 : decode cX5_cutter 122 = .ok (.goto 4, 3) := by decide +kernel
theorem dX5_cutter_125 : decode cX5_cutter 125 = .ok (.iconst 0, 1) := by decide +kernel
theorem dX5_cutter_126 : decode cX5_cutter 126 = .ok (.iastore, 1) := by decide +kernel
theorem dX5_cutter_127 : decode cX5_cutter 127 = .ok (.aload_n 0, 1) := by decide +kernel
theorem dX5_cutter_128 : decode cX5_cutter 128 = .ok (.getfield 49, 3) := by decide +kernel
theorem dX5_cutter_131 : decode cX5_cutter 131 = .ok (.iload_n 1, 1) := by decide +kernel
theorem dX5_cutter_132 : decode cX5_cutter 132 = .ok (.iconst 0, 1) := by decide +kernel
theorem dX5_cutter_133 : decode cX5_cutter 133 = .ok (.iastore, 1) := by decide +kernel
theorem dX5_cutter_134 : decode cX5_cutter 134 = .ok (.aload_n 0, 1) := by decide +kernel
theorem dX5_cutter_135 : decode cX5_cutter 135 = .ok (.iload_n 1, 1) := by decide +kernel
theorem dX5_cutter_136 : decode cX5_cutter 136 = .ok (.invokevirtual 176, 3) := by decide +kernel
theorem dX5_cutter_139 : decode cX5_cutter 139 = .ok (.ireturn, 1) := by decide +kernel
theorem dX5_more_0 : decode cX5_more 0 = .ok (.iload_n 1, 1) := by decide +kernel
theorem dX5_more_1 : decode cX5_more 1 = .ok (.invokestatic 170, 3) := by decide +kernel
theorem dX5_more_4 : decode cX5_more 4 = .ok (.ifCond .ne 7, 3) := by decide +kernel
theorem dX5_more_7 : decode cX5_more 7 = .ok (.sipush (-1001), 3) := by decide +kernel
theorem dX5_more_10 : decode cX5_more 10 = .ok (.ireturn, 1) := by decide +kernel
theorem dX5_more_11 : decode cX5_more 11 = .ok (.aload_n 0, 1) := by decide +kernel
theorem dX5_more_12 : decode cX5_more 12 = .ok (.getfield 40, 3) := by decide +kernel
theorem dX5_more_15 : decode cX5_more 15 = .ok (.iload_n 1, 1) := by decide +kernel
theorem dX5_more_16 : decode cX5_more 16 = .ok (.iaload, 1) := by decide +kernel
theorem dX5_more_17 : decode cX5_more 17 = .ok (.ifCond .ge 7, 3) := by decide +kernel
theorem dX5_more_20 : decode cX5_more 20 = .ok (.sipush (-1003), 3) := by decide +kernel
theorem dX5_more_23 : decode cX5_more 23 = .ok (.ireturn, 1) := by decide +kernel
theorem dX5_more_24 : decode cX5_more 24 = .ok (.aload_n 0, 1) := by decide +kernel
theorem dX5_more_25 : decode cX5_more 25 = .ok (.iload_n 1, 1) := by decide +kernel
theorem dX5_more_26 : decode cX5_more 26 = .ok (.aload_n 0, 1) := by decide +kernel
theorem dX5_more_27 : decode cX5_more 27 = .ok (.getfield 49, 3) := by decide +kernel
theorem dX5_more_30 : decode cX5_more 30 = .ok (.iload_n 1, 1) := by decide +kernel
theorem dX5_more_31 : decode cX5_more 31 = .ok (.iaload, 1) := by decide +kernel
theorem dX5_more_32 : decode cX5_more 32 = .ok (.invokevirtual 164, 3) := by decide +kernel
theorem dX5_more_35 : decode cX5_more 35 = .ok (.aload_n 0, 1) := by decide +kernel
theorem dX5_more_36 : decode cX5_more 36 = .ok (.getfield 40, 3) := by decide +kernel
theorem dX5_more_39 : decode cX5_more 39 = .ok (.iload_n 1, 1) := by decide +kernel
theorem dX5_more_40 : decode cX5_more 40 = .ok (.iaload, 1) := by decide +kernel
theorem dX5_more_41 : decode cX5_more 41 = .ok (.if_icmp .ge 7, 3) := by decide +kernel
theorem dX5_more_44 : decode cX5_more 44 = .ok (.iconst 1, 1) := by decide +kernel
theorem dX5_more_45 : decode cX5_more 45 = .ok (.goto 4, 3) := by decide +kernel
theorem dX5_more_48 : decode cX5_more 48 = .ok (.iconst 0, 1) := by decide +kernel
theorem dX5_more_49 : decode cX5_more 49 = .ok (.ireturn, 1) := by decide +kernel
theorem dX5_left_0 : decode cX5_left 0 = .ok (.iload_n 1, 1) := by decide +kernel
theorem dX5_left_1 : decode cX5_left 1 = .ok (.invokestatic 170, 3) := by decide +kernel
theorem dX5_left_4 : decode cX5_left 4 = .ok (.ifCond .ne 7, 3) := by decide +kernel
theorem dX5_left_7 : decode cX5_left 7 = .ok (.sipush (-1001), 3) := by decide +kernel
theorem dX5_left_10 : decode cX5_left 10 = .ok (.ireturn, 1) := by decide +kernel
theorem dX5_left_11 : decode cX5_left 11 = .ok (.aload_n 0, 1) := by decide +kernel
theorem dX5_left_12 : decode cX5_left 12 = .ok (.getfield 40, 3) := by decide +kernel
theorem dX5_left_15 : decode cX5_left 15 = .ok (.iload_n 1, 1) := by decide +kernel
theorem dX5_left_16 : decode cX5_left 16 = .ok (.iaload, 1) := by decide +kernel
theorem dX5_left_17 : decode cX5_left 17 = .ok (.ifCond .ge 9, 3) := by decide +kernel
theorem dX5_left_20 : decode cX5_left 20 = .ok (.sipush (-1003), 3) := by decide +kernel
theorem dX5_left_23 : decode cX5_left 23 = .ok (.goto 8, 3) := by decide +kernel
theorem dX5_left_26 : decode cX5_left 26 = .ok (.aload_n 0, 1) := by decide +kernel
theorem dX5_left_27 : decode cX5_left 27 = .ok (.iload_n 1, 1) := by decide +kernel
theorem dX5_left_28 : decode cX5_left 28 = .ok (.invokevirtual 176, 3) := by decide +kernel
theorem dX5_left_31 : decode cX5_left 31 = .ok (.ireturn, 1) := by decide +kernel
theorem dX5_takes_0 : decode cX5_takes 0 = .ok (.aload_n 0, 1) := by decide +kernel
theorem dX5_takes_1 : decode cX5_takes 1 = .ok (.iload_n 1, 1) := by decide +kernel
theorem dX5_takes_2 : decode cX5_takes 2 = .ok (.aload_n 0, 1) := by decide +kernel
theorem dX5_takes_3 : decode cX5_takes 3 = .ok (.getfield 49, 3) := by decide +kernel
theorem dX5_takes_6 : decode cX5_takes 6 = .ok (.iload_n 1, 1) := by decide +kernel
theorem dX5_takes_7 : decode cX5_takes 7 = .ok (.iaload, 1) := by decide +kernel
theorem dX5_takes_8 : decode cX5_takes 8 = .ok (.invokevirtual 164, 3) := by decide +kernel
theorem dX5_takes_11 : decode cX5_takes 11 = .ok (.istore_n 3, 1) := by decide +kernel
theorem dX5_takes_12 : decode cX5_takes 12 = .ok (.iload_n 3, 1) := by decide +kernel
theorem dX5_takes_13 : decode cX5_takes 13 = .ok (.aload_n 0, 1) := by decide +kernel
theorem dX5_takes_14 : decode cX5_takes 14 = .ok (.getfield 40, 3) := by decide +kernel
theorem dX5_takes_17 : decode cX5_takes 17 = .ok (.iload_n 1, 1) := by decide +kernel
theorem dX5_takes_18 : decode cX5_takes 18 = .ok (.iaload, 1) := by decide +kernel
theorem dX5_takes_19 : decode cX5_takes 19 = .ok (.if_icmp .ne 14, 3) := by decide +kernel
theorem dX5_takes_22 : decode cX5_takes 22 = .ok (.aload_n 0, 1) := by decide +kernel
theorem dX5_takes_23 : decode cX5_takes 23 = .ok (.getfield 40, 3) := by decide +kernel
theorem dX5_takes_26 : decode cX5_takes 26 = .ok (.iload_n 1, 1) := by decide +kernel
theorem dX5_takes_27 : decode cX5_takes 27 = .ok (.iconst (-1), 1) := by decide +kernel
theorem dX5_takes_28 : decode cX5_takes 28 = .ok (.iastore, 1) := by decide +kernel
theorem dX5_takes_29 : decode cX5_takes 29 = .ok (.sipush (-1006), 3) := by decide +kernel
theorem dX5_takes_32 : decode cX5_takes 32 = .ok (.ireturn, 1) := by decide +kernel
theorem dX5_takes_33 : decode cX5_takes 33 = .ok (.aload_n 0, 1) := by decide +kernel
theorem dX5_takes_34 : decode cX5_takes 34 = .ok (.iload_n 1, 1) := by decide +kernel
theorem dX5_takes_35 : decode cX5_takes 35 = .ok (.iload_n 3, 1) := by decide +kernel
theorem dX5_takes_36 : decode cX5_takes 36 = .ok (.invokevirtual 167, 3) := by decide +kernel
theorem dX5_takes_39 : decode cX5_takes 39 = .ok (.istore 4, 2) := by decide +kernel
theorem dX5_takes_41 : decode cX5_takes 41 = .ok (.aload_n 0, 1) := by decide +kernel
theorem dX5_takes_42 : decode cX5_takes 42 = .ok (.iload 4, 2) := by decide +kernel
theorem dX5_takes_44 : decode cX5_takes 44 = .ok (.iload_n 3, 1) := by decide +kernel
theorem dX5_takes_45 : decode cX5_takes 45 = .ok (.isub, 1) := by decide +kernel
theorem dX5_takes_46 : decode cX5_takes 46 = .ok (.putfield 62, 3) := by decide +kernel
theorem dX5_takes_49 : decode cX5_takes 49 = .ok (.iload_n 3, 1) := by decide +kernel
theorem dX5_takes_50 : decode cX5_takes 50 = .ok (.istore 5, 2) := by decide +kernel
theorem dX5_takes_52 : decode cX5_takes 52 = .ok (.iload 5, 2) := by decide +kernel
theorem dX5_takes_54 : decode cX5_takes 54 = .ok (.iload 4, 2) := by decide +kernel
theorem dX5_takes_56 : decode cX5_takes 56 = .ok (.if_icmp .ge 31, 3) := by decide +kernel
theorem dX5_takes_59 : decode cX5_takes 59 = .ok (.aload_n 0, 1) := by decide +kernel
theorem dX5_takes_60 : decode cX5_takes 60 = .ok (.getfield 22, 3) := by decide +kernel
theorem dX5_takes_63 : decode cX5_takes 63 = .ok (.iload 5, 2) := by decide +kernel
theorem dX5_takes_65 : decode cX5_takes 65 = .ok (.iload_n 3, 1) := by decide +kernel
theorem dX5_takes_66 : decode cX5_takes 66 = .ok (.isub, 1) := by decide +kernel
theorem dX5_takes_67 : decode cX5_takes 67 = .ok (.aload_n 0, 1) := by decide +kernel
theorem dX5_takes_68 : decode cX5_takes 68 = .ok (.getfield 37, 3) := by decide +kernel
theorem dX5_takes_71 : decode cX5_takes 71 = .ok (.sipush 200, 3) := by decide +kernel
theorem dX5_takes_74 : decode cX5_takes 74 = .ok (.iload_n 1, 1) := by decide +kernel
theorem dX5_takes_75 : decode cX5_takes 75 = .ok (.imul, 1) := by decide +kernel
theorem dX5_takes_76 : decode cX5_takes 76 = .ok (.iload 5, 2) := by decide +kernel
theorem dX5_takes_78 : decode cX5_takes 78 = .ok (.iadd, 1) := by decide +kernel
theorem dX5_takes_79 : decode cX5_takes 79 = .ok (.iaload, 1) := by decide +kernel
theorem dX5_takes_80 : decode cX5_takes 80 = .ok (.iastore, 1) := by decide +kernel
theorem dX5_takes_81 : decode cX5_takes 81 = .ok (.iinc 5 1, 3) := by decide +kernel
theorem dX5_takes_84 : decode cX5_takes 84 = .ok (.goto (-32), 3) := by decide +kernel
theorem dX5_takes_87 : decode cX5_takes 87 = .ok (.aload_n 0, 1) := by decide +kernel
theorem dX5_takes_88 : decode cX5_takes 88 = .ok (.getfield 49, 3) := by decide +kernel
theorem dX5_takes_91 : decode cX5_takes 91 = .ok (.iload_n 1, 1) := by decide +kernel
theorem dX5_takes_92 : decode cX5_takes 92 = .ok (.iload 4, 2) := by decide +kernel
theorem dX5_takes_94 : decode cX5_takes 94 = .ok (.iastore, 1) := by decide +kernel
theorem dX5_takes_95 : decode cX5_takes 95 = .ok (.aload_n 0, 1) := by decide +kernel
theorem dX5_takes_96 : decode cX5_takes 96 = .ok (.iload_n 2, 1) := by decide +kernel
theorem dX5_takes_97 : decode cX5_takes 97 = .ok (.invokevirtual 118, 3) := by decide +kernel
theorem dX5_takes_100 : decode cX5_takes 100 = .ok (.ireturn, 1) := by decide +kernel
theorem dX5_next_0 : decode cX5_next 0 = .ok (.iload_n 1, 1) := by decide +kernel
theorem dX5_next_1 : decode cX5_next 1 = .ok (.invokestatic 170, 3) := by decide +kernel
theorem dX5_next_4 : decode cX5_next 4 = .ok (.ifCond .eq 10, 3) := by decide +kernel
theorem dX5_next_7 : decode cX5_next 7 = .ok (.iload_n 2, 1) := by decide +kernel
theorem dX5_next_8 : decode cX5_next 8 = .ok (.invokestatic 87, 3) := by decide +kernel
theorem dX5_next_11 : decode cX5_next 11 = .ok (.ifCond .ne 7, 3) := by decide +kernel
theorem dX5_next_14 : decode cX5_next 14 = .ok (.sipush (-1001), 3) := by decide +kernel
theorem dX5_next_17 : decode cX5_next 17 = .ok (.ireturn, 1) := by decide +kernel
theorem dX5_next_18 : decode cX5_next 18 = .ok (.aload_n 0, 1) := by decide +kernel
theorem dX5_next_19 : decode cX5_next 19 = .ok (.getfield 40, 3) := by decide +kernel
theorem dX5_next_22 : decode cX5_next 22 = .ok (.iload_n 1, 1) := by decide +kernel
theorem dX5_next_23 : decode cX5_next 23 = .ok (.iaload, 1) := by decide +kernel
theorem dX5_next_24 : decode cX5_next 24 = .ok (.ifCond .ge 9, 3) := by decide +kernel
theorem dX5_next_27 : decode cX5_next 27 = .ok (.sipush (-1003), 3) := by decide +kernel
theorem dX5_next_30 : decode cX5_next 30 = .ok (.goto 9, 3) := by decide +kernel
theorem dX5_next_33 : decode cX5_next 33 = .ok (.aload_n 0, 1) := by decide +kernel
theorem dX5_next_34 : decode cX5_next 34 = .ok (.iload_n 1, 1) := by decide +kernel
theorem dX5_next_35 : decode cX5_next 35 = .ok (.iload_n 2, 1) := by decide +kernel
theorem dX5_next_36 : decode cX5_next 36 = .ok (.invokevirtual 179, 3) := by decide +kernel
theorem dX5_next_39 : decode cX5_next 39 = .ok (.ireturn, 1) := by decide +kernel
theorem dX5_nextBy_0 : decode cX5_nextBy 0 = .ok (.iload_n 1, 1) := by decide +kernel
theorem dX5_nextBy_1 : decode cX5_nextBy 1 = .ok (.invokestatic 170, 3) := by decide +kernel
theorem dX5_nextBy_4 : decode cX5_nextBy 4 = .ok (.ifCond .eq 17, 3) := by decide +kernel
theorem dX5_nextBy_7 : decode cX5_nextBy 7 = .ok (.iload_n 2, 1) := by decide +kernel
theorem dX5_nextBy_8 : decode cX5_nextBy 8 = .ok (.invokestatic 87, 3) := by decide +kernel
theorem dX5_nextBy_11 : decode cX5_nextBy 11 = .ok (.ifCond .eq 10, 3) := by decide +kernel
theorem dX5_nextBy_14 : decode cX5_nextBy 14 = .ok (.iload_n 3, 1) := by decide +kernel
theorem dX5_nextBy_15 : decode cX5_nextBy 15 = .ok (.invokestatic 87, 3) := by decide +kernel
theorem dX5_nextBy_18 : decode cX5_nextBy 18 = .ok (.ifCond .ne 7, 3) := by decide +kernel
theorem dX5_nextBy_21 : decode cX5_nextBy 21 = .ok (.sipush (-1001), 3) := by decide +kernel
theorem dX5_nextBy_24 : decode cX5_nextBy 24 = .ok (.ireturn, 1) := by decide +kernel
theorem dX5_nextBy_25 : decode cX5_nextBy 25 = .ok (.aload_n 0, 1) := by decide +kernel
theorem dX5_nextBy_26 : decode cX5_nextBy 26 = .ok (.getfield 40, 3) := by decide +kernel
theorem dX5_nextBy_29 : decode cX5_nextBy 29 = .ok (.iload_n 1, 1) := by decide +kernel
theorem dX5_nextBy_30 : decode cX5_nextBy 30 = .ok (.iaload, 1) := by decide +kernel
theorem dX5_nextBy_31 : decode cX5_nextBy 31 = .ok (.ifCond .lt 12, 3) := by decide +kernel
theorem dX5_nextBy_34 : decode cX5_nextBy 34 = .ok (.aload_n 0, 1) := by decide +kernel
theorem dX5_nextBy_35 : decode cX5_nextBy 35 = .ok (.getfield 19, 3) := by decide +kernel
theorem dX5_nextBy_38 : decode cX5_nextBy 38 = .ok (.iload_n 2, 1) := by decide +kernel
theorem dX5_nextBy_39 : decode cX5_nextBy 39 = .ok (.iaload, 1) := by decide +kernel
theorem dX5_nextBy_40 : decode cX5_nextBy 40 = .ok (.ifCond .ge 7, 3) := by decide +kernel
theorem dX5_nextBy_43 : decode cX5_nextBy 43 = .ok (.sipush (-1003), 3) := by decide +kernel
theorem dX5_nextBy_46 : decode cX5_nextBy 46 = .ok (.ireturn, 1) := by decide +kernel
theorem dX5_nextBy_47 : decode cX5_nextBy 47 = .ok (.aload_n 0, 1) := by decide +kernel
theorem dX5_nextBy_48 : decode cX5_nextBy 48 = .ok (.iload_n 1, 1) := by decide +kernel
theorem dX5_nextBy_49 : decode cX5_nextBy 49 = .ok (.iload_n 2, 1) := by decide +kernel
theorem dX5_nextBy_50 : decode cX5_nextBy 50 = .ok (.invokevirtual 173, 3) := by decide +kernel
theorem dX5_nextBy_53 : decode cX5_nextBy 53 = .ok (.aload_n 0, 1) := by decide +kernel
theorem dX5_nextBy_54 : decode cX5_nextBy 54 = .ok (.iload_n 1, 1) := by decide +kernel
theorem dX5_nextBy_55 : decode cX5_nextBy 55 = .ok (.iload_n 3, 1) := by decide +kernel
theorem dX5_nextBy_56 : decode cX5_nextBy 56 = .ok (.invokevirtual 179, 3) := by decide +kernel
theorem dX5_nextBy_59 : decode cX5_nextBy 59 = .ok (.ireturn, 1) := by decide +kernel
theorem dX5_mix_0 : decode cX5_mix 0 = .ok (.aload_n 0, 1) := by decide +kernel
theorem dX5_mix_1 : decode cX5_mix 1 = .ok (.ldc2_w 182, 3) := by decide +kernel
theorem dX5_mix_4 : decode cX5_mix 4 = .ok (.aload_n 0, 1) := by decide +kernel
theorem dX5_mix_5 : decode cX5_mix 5 = .ok (.getfield 184, 3) := by decide +kernel
theorem dX5_mix_8 : decode cX5_mix 8 = .ok (.lmul, 1) := by decide +kernel
theorem dX5_mix_9 : decode cX5_mix 9 = .ok (.lload_n 1, 1) := by decide +kernel
theorem dX5_mix_10 : decode cX5_mix 10 = .ok (.ladd, 1) := by decide +kernel
theorem dX5_mix_11 : decode cX5_mix 11 = .ok (.putfield 184, 3) := by decide +kernel
theorem dX5_mix_14 : decode cX5_mix 14 = .ok (.return_, 1) := by decide +kernel
theorem dX5_digest_0 : decode cX5_digest 0 = .ok (.aload_n 0, 1) := by decide +kernel
theorem dX5_digest_1 : decode cX5_digest 1 = .ok (.ldc2_w 188, 3) := by decide +kernel
theorem dX5_digest_4 : decode cX5_digest 4 = .ok (.putfield 184, 3) := by decide +kernel
theorem dX5_digest_7 : decode cX5_digest 7 = .ok (.iconst 0, 1) := by decide +kernel
theorem dX5_digest_8 : decode cX5_digest 8 = .ok (.istore_n 1, 1) := by decide +kernel
theorem dX5_digest_9 : decode cX5_digest 9 = .ok (.iload_n 1, 1) := by decide +kernel
theorem dX5_digest_10 : decode cX5_digest 10 = .ok (.iconst 4, 1) := by decide +kernel
theorem dX5_digest_11 : decode cX5_digest 11 = .ok (.if_icmp .ge 55, 3) := by decide +kernel
theorem dX5_digest_14 : decode cX5_digest 14 = .ok (.aload_n 0, 1) := by decide +kernel
theorem dX5_digest_15 : decode cX5_digest 15 = .ok (.aload_n 0, 1) := by decide +kernel
theorem dX5_digest_16 : decode cX5_digest 16 = .ok (.getfield 13, 3) := by decide +kernel
theorem dX5_digest_19 : decode cX5_digest 19 = .ok (.iload_n 1, 1) := by decide +kernel
theorem dX5_digest_20 : decode cX5_digest 20 = .ok (.iaload, 1) := by decide +kernel
theorem dX5_digest_21 : decode cX5_digest 21 = .ok (.i2l, 1) := by decide +kernel
theorem dX5_digest_22 : decode cX5_digest 22 = .ok (.invokevirtual 190, 3) := by decide +kernel
theorem dX5_digest_25 : decode cX5_digest 25 = .ok (.iconst 0, 1) := by decide +kernel
theorem dX5_digest_26 : decode cX5_digest 26 = .ok (.istore_n 2, 1) := by decide +kernel
theorem dX5_digest_27 : decode cX5_digest 27 = .ok (.iload_n 2, 1) := by decide +kernel
theorem dX5_digest_28 : decode cX5_digest 28 = .ok (.aload_n 0, 1) := by decide +kernel
theorem dX5_digest_29 : decode cX5_digest 29 = .ok (.getfield 13, 3) := by decide +kernel
theorem dX5_digest_32 : decode cX5_digest 32 = .ok (.iload_n 1, 1) := by decide +kernel
theorem dX5_digest_33 : decode cX5_digest 33 = .ok (.iaload, 1) := by decide +kernel
theorem dX5_digest_34 : decode cX5_digest 34 = .ok (.if_icmp .ge 26, 3) := by decide +kernel
theorem dX5_digest_37 : decode cX5_digest 37 = .ok (.aload_n 0, 1) := by decide +kernel
theorem dX5_digest_38 : decode cX5_digest 38 = .ok (.aload_n 0, 1) := by decide +kernel
theorem dX5_digest_39 : decode cX5_digest 39 = .ok (.getfield 7, 3) := by decide +kernel
theorem dX5_digest_42 : decode cX5_digest 42 = .ok (.sipush 200, 3) := by decide +kernel
theorem dX5_digest_45 : decode cX5_digest 45 = .ok (.iload_n 1, 1) := by decide +kernel
theorem dX5_digest_46 : decode cX5_digest 46 = .ok (.imul, 1) := by decide +kernel
theorem dX5_digest_47 : decode cX5_digest 47 = .ok (.iload_n 2, 1) := by decide +kernel
theorem dX5_digest_48 : decode cX5_digest 48 = .ok (.iadd, 1) := by decide +kernel
theorem dX5_digest_49 : decode cX5_digest 49 = .ok (.iaload, 1) := by decide +kernel
theorem dX5_digest_50 : decode cX5_digest 50 = .ok (.i2l, 1) := by decide +kernel
theorem dX5_digest_51 : decode cX5_digest 51 = .ok (.invokevirtual 190, 3) := by decide +kernel
theorem dX5_digest_54 : decode cX5_digest 54 = .ok (.iinc 2 1, 3) := by decide +kernel
theorem dX5_digest_57 : decode cX5_digest 57 = .ok (.goto (-30), 3) := by decide +kernel
theorem dX5_digest_60 : decode cX5_digest 60 = .ok (.iinc 1 1, 3) := by decide +kernel
theorem dX5_digest_63 : decode cX5_digest 63 = .ok (.goto (-54), 3) := by decide +kernel
theorem dX5_digest_66 : decode cX5_digest 66 = .ok (.iconst 0, 1) := by decide +kernel
theorem dX5_digest_67 : decode cX5_digest 67 = .ok (.istore_n 1, 1) := by decide +kernel
theorem dX5_digest_68 : decode cX5_digest 68 = .ok (.iload_n 1, 1) := by decide +kernel
theorem dX5_digest_69 : decode cX5_digest 69 = .ok (.bipush 8, 2) := by decide +kernel
theorem dX5_digest_71 : decode cX5_digest 71 = .ok (.if_icmp .ge 55, 3) := by decide +kernel
theorem dX5_digest_74 : decode cX5_digest 74 = .ok (.aload_n 0, 1) := by decide +kernel
theorem dX5_digest_75 : decode cX5_digest 75 = .ok (.aload_n 0, 1) := by decide +kernel
theorem dX5_digest_76 : decode cX5_digest 76 = .ok (.getfield 19, 3) := by decide +kernel
theorem dX5_digest_79 : decode cX5_digest 79 = .ok (.iload_n 1, 1) := by decide +kernel
theorem dX5_digest_80 : decode cX5_digest 80 = .ok (.iaload, 1) := by decide +kernel
theorem dX5_digest_81 : decode cX5_digest 81 = .ok (.i2l, 1) := by decide +kernel
theorem dX5_digest_82 : decode cX5_digest 82 = .ok (.invokevirtual 190, 3) := by decide +kernel
theorem dX5_digest_85 : decode cX5_digest 85 = .ok (.iconst 0, 1) := by decide +kernel
theorem dX5_digest_86 : decode cX5_digest 86 = .ok (.istore_n 2, 1) := by decide +kernel
theorem dX5_digest_87 : decode cX5_digest 87 = .ok (.iload_n 2, 1) := by decide +kernel
theorem dX5_digest_88 : decode cX5_digest 88 = .ok (.aload_n 0, 1) := by decide +kernel
theorem dX5_digest_89 : decode cX5_digest 89 = .ok (.getfield 19, 3) := by decide +kernel
theorem dX5_digest_92 : decode cX5_digest 92 = .ok (.iload_n 1, 1) := by decide +kernel
theorem dX5_digest_93 : decode cX5_digest 93 = .ok (.iaload, 1) := by decide +kernel
theorem dX5_digest_94 : decode cX5_digest 94 = .ok (.if_icmp .ge 26, 3) := by decide +kernel
theorem dX5_digest_97 : decode cX5_digest 97 = .ok (.aload_n 0, 1) := by decide +kernel
theorem dX5_digest_98 : decode cX5_digest 98 = .ok (.aload_n 0, 1) := by decide +kernel
theorem dX5_digest_99 : decode cX5_digest 99 = .ok (.getfield 16, 3) := by decide +kernel
theorem dX5_digest_102 : decode cX5_digest 102 = .ok (.sipush 200, 3) := by decide +kernel
theorem dX5_digest_105 : decode cX5_digest 105 = .ok (.iload_n 1, 1) := by decide +kernel
theorem dX5_digest_106 : decode cX5_digest 106 = .ok (.imul, 1) := by decide +kernel
theorem dX5_digest_107 : decode cX5_digest 107 = .ok (.iload_n 2, 1) := by decide +kernel
theorem dX5_digest_108 : decode cX5_digest 108 = .ok (.iadd, 1) := by decide +kernel
theorem dX5_digest_109 : decode cX5_digest 109 = .ok (.iaload, 1) := by decide +kernel
theorem dX5_digest_110 : decode cX5_digest 110 = .ok (.i2l, 1) := by decide +kernel
theorem dX5_digest_111 : decode cX5_digest 111 = .ok (.invokevirtual 190, 3) := by decide +kernel
theorem dX5_digest_114 : decode cX5_digest 114 = .ok (.iinc 2 1, 3) := by decide +kernel
theorem dX5_digest_117 : decode cX5_digest 117 = .ok (.goto (-30), 3) := by decide +kernel
theorem dX5_digest_120 : decode cX5_digest 120 = .ok (.iinc 1 1, 3) := by decide +kernel
theorem dX5_digest_123 : decode cX5_digest 123 = .ok (.goto (-55), 3) := by decide +kernel
theorem dX5_digest_126 : decode cX5_digest 126 = .ok (.aload_n 0, 1) := by decide +kernel
theorem dX5_digest_127 : decode cX5_digest 127 = .ok (.aload_n 0, 1) := by decide +kernel
theorem dX5_digest_128 : decode cX5_digest 128 = .ok (.getfield 148, 3) := by decide +kernel
theorem dX5_digest_131 : decode cX5_digest 131 = .ok (.i2l, 1) := by decide +kernel
theorem dX5_digest_132 : decode cX5_digest 132 = .ok (.invokevirtual 190, 3) := by decide +kernel
theorem dX5_digest_135 : decode cX5_digest 135 = .ok (.iconst 0, 1) := by decide +kernel
theorem dX5_digest_136 : decode cX5_digest 136 = .ok (.istore_n 1, 1) := by decide +kernel
theorem dX5_digest_137 : decode cX5_digest 137 = .ok (.iload_n 1, 1) := by decide +kernel
theorem dX5_digest_138 : decode cX5_digest 138 = .ok (.aload_n 0, 1) := by decide +kernel
theorem dX5_digest_139 : decode cX5_digest 139 = .ok (.getfield 148, 3) := by decide +kernel
theorem dX5_digest_142 : decode cX5_digest 142 = .ok (.if_icmp .ge 56, 3) := by decide +kernel
theorem dX5_digest_145 : decode cX5_digest 145 = .ok (.aload_n 0, 1) := by decide +kernel
theorem dX5_digest_146 : decode cX5_digest 146 = .ok (.aload_n 0, 1) := by decide +kernel
theorem dX5_digest_147 : decode cX5_digest 147 = .ok (.getfield 34, 3) := by decide +kernel
theorem dX5_digest_150 : decode cX5_digest 150 = .ok (.iload_n 1, 1) := by decide +kernel
theorem dX5_digest_151 : decode cX5_digest 151 = .ok (.iaload, 1) := by decide +kernel
theorem dX5_digest_152 : decode cX5_digest 152 = .ok (.i2l, 1) := by decide +kernel
theorem dX5_digest_153 : decode cX5_digest 153 = .ok (.invokevirtual 190, 3) := by decide +kernel
theorem dX5_digest_156 : decode cX5_digest 156 = .ok (.iconst 0, 1) := by decide +kernel
theorem dX5_digest_157 : decode cX5_digest 157 = .ok (.istore_n 2, 1) := by decide +kernel
theorem dX5_digest_158 : decode cX5_digest 158 = .ok (.iload_n 2, 1) := by decide +kernel
theorem dX5_digest_159 : decode cX5_digest 159 = .ok (.aload_n 0, 1) := by decide +kernel
theorem dX5_digest_160 : decode cX5_digest 160 = .ok (.getfield 34, 3) := by decide +kernel
theorem dX5_digest_163 : decode cX5_digest 163 = .ok (.iload_n 1, 1) := by decide +kernel
theorem dX5_digest_164 : decode cX5_digest 164 = .ok (.iaload, 1) := by decide +kernel
theorem dX5_digest_165 : decode cX5_digest 165 = .ok (.if_icmp .ge 27, 3) := by decide +kernel
theorem dX5_digest_168 : decode cX5_digest 168 = .ok (.aload_n 0, 1) := by decide +kernel
theorem dX5_digest_169 : decode cX5_digest 169 = .ok (.aload_n 0, 1) := by decide +kernel
theorem dX5_digest_170 : decode cX5_digest 170 = .ok (.getfield 28, 3) := by decide +kernel
theorem dX5_digest_173 : decode cX5_digest 173 = .ok (.aload_n 0, 1) := by decide +kernel
theorem dX5_digest_174 : decode cX5_digest 174 = .ok (.getfield 31, 3) := by decide +kernel
theorem dX5_digest_177 : decode cX5_digest 177 = .ok (.iload_n 1, 1) := by decide +kernel
theorem dX5_digest_178 : decode cX5_digest 178 = .ok (.iaload, 1) := by decide +kernel
theorem dX5_digest_179 : decode cX5_digest 179 = .ok (.iload_n 2, 1) := by decide +kernel
theorem dX5_digest_180 : decode cX5_digest 180 = .ok (.iadd, 1) := by decide +kernel
theorem dX5_digest_181 : decode cX5_digest 181 = .ok (.iaload, 1) := by decide +kernel
theorem dX5_digest_182 : decode cX5_digest 182 = .ok (.i2l, 1) := by decide +kernel
theorem dX5_digest_183 : decode cX5_digest 183 = .ok (.invokevirtual 190, 3) := by decide +kernel
theorem dX5_digest_186 : decode cX5_digest 186 = .ok (.iinc 2 1, 3) := by decide +kernel
theorem dX5_digest_189 : decode cX5_digest 189 = .ok (.goto (-31), 3) := by decide +kernel
theorem dX5_digest_192 : decode cX5_digest 192 = .ok (.iinc 1 1, 3) := by decide +kernel
theorem dX5_digest_195 : decode cX5_digest 195 = .ok (.goto (-58), 3) := by decide +kernel
theorem dX5_digest_198 : decode cX5_digest 198 = .ok (.iconst 0, 1) := by decide +kernel
theorem dX5_digest_199 : decode cX5_digest 199 = .ok (.istore_n 1, 1) := by decide +kernel
theorem dX5_digest_200 : decode cX5_digest 200 = .ok (.iload_n 1, 1) := by decide +kernel
theorem dX5_digest_201 : decode cX5_digest 201 = .ok (.iconst 2, 1) := by decide +kernel
theorem dX5_digest_202 : decode cX5_digest 202 = .ok (.if_icmp .ge 34, 3) := by decide +kernel
theorem dX5_digest_205 : decode cX5_digest 205 = .ok (.aload_n 0, 1) := by decide +kernel
theorem dX5_digest_206 : decode cX5_digest 206 = .ok (.aload_n 0, 1) := by decide +kernel
theorem dX5_digest_207 : decode cX5_digest 207 = .ok (.getfield 40, 3) := by decide +kernel
theorem dX5_digest_210 : decode cX5_digest 210 = .ok (.iload_n 1, 1) := by decide +kernel
theorem dX5_digest_211 : decode cX5_digest 211 = .ok (.iaload, 1) := by decide +kernel
theorem dX5_digest_212 : decode cX5_digest 212 = .ok (.ifCond .ge 9, 3) := by decide +kernel
theorem dX5_digest_215 : decode cX5_digest 215 = .ok (.ldc2_w 194, 3) := by decide +kernel
theorem dX5_digest_218 : decode cX5_digest 218 = .ok (.goto 9, 3) := by decide +kernel
theorem dX5_digest_221 : decode cX5_digest 221 = .ok (.aload_n 0, 1) := by decide +kernel
theorem dX5_digest_222 : decode cX5_digest 222 = .ok (.iload_n 1, 1) := by decide +kernel
theorem dX5_digest_223 : decode cX5_digest 223 = .ok (.invokevirtual 176, 3) := by decide +kernel
theorem dX5_digest_226 : decode cX5_digest 226 = .ok (.i2l, 1) := by decide +kernel
theorem dX5_digest_227 : decode cX5_digest 227 = .ok (.invokevirtual 190, 3) := by decide +kernel
theorem dX5_digest_230 : decode cX5_digest 230 = .ok (.iinc 1 1, 3) := by decide +kernel
theorem dX5_digest_233 : decode cX5_digest 233 = .ok (.goto (-33), 3) := by decide +kernel
theorem dX5_digest_236 : decode cX5_digest 236 = .ok (.aload_n 0, 1) := by decide +kernel
theorem dX5_digest_237 : decode cX5_digest 237 = .ok (.getfield 184, 3) := by decide +kernel
theorem dX5_digest_240 : decode cX5_digest 240 = .ok (.lreturn, 1) := by decide +kernel
end
section
/-! numbers: an int, a long by the whole number that it stands for -/
def xI (z : Int) : Int32 := Int32.ofInt z
def xL (z : Int) : Int64 := Int64.ofInt z
theorem xI_add (a b : Int) : xI a + xI b = xI (a + b) := (Int32.ofInt_add a b).symm
theorem xI_sub (a b : Int) : xI a - xI b = xI (a - b) := (Int32.ofInt_sub a b).symm
theorem xI_mul (a b : Int) : xI a * xI b = xI (a * b) := (Int32.ofInt_mul a b).symm
theorem xI_neg (a : Int) : -xI a = xI (-a) := (Int32.ofInt_neg a).symm
theorem xI_of (x : Int32) : xI x.toInt = x := Int32.ofInt_toInt x
theorem xI_toInt {z : Int} (h : -2147483648 ≤ z ∧ z ≤ 2147483647) : (xI z).toInt = z := Int32.toInt_ofInt_of_le (by have := h.1; omega) (by have := h.2; omega)
theorem xI_rng (x : Int32) : -2147483648 ≤ x.toInt ∧ x.toInt ≤ 2147483647 := ⟨by have := Int32.le_toInt x; omega, by have := Int32.toInt_lt x; omega⟩
theorem xI_nat (n : Nat) : Int32.ofNat n = xI (n : Int) := (Int32.ofInt_eq_ofNat).symm
theorem xI_inj {a b : Int} (ha : -2147483648 ≤ a ∧ a ≤ 2147483647) (hb : -2147483648 ≤ b ∧ b ≤ 2147483647) : xI a = xI b ↔ a = b := ⟨fun h => by rw [← xI_toInt ha, ← xI_toInt hb, h], fun h => by rw [h]⟩
theorem xI_lt {a b : Int} (ha : -2147483648 ≤ a ∧ a ≤ 2147483647) (hb : -2147483648 ≤ b ∧ b ≤ 2147483647) : xI a < xI b ↔ a < b := by rw [Int32.lt_iff_toInt_lt, xI_toInt ha, xI_toInt hb]
theorem xI_le {a b : Int} (ha : -2147483648 ≤ a ∧ a ≤ 2147483647) (hb : -2147483648 ≤ b ∧ b ≤ 2147483647) : xI a ≤ xI b ↔ a ≤ b := by rw [Int32.le_iff_toInt_le, xI_toInt ha, xI_toInt hb]
theorem xI_clamp {z : Int} (h : 0 ≤ z ∧ z ≤ 2147483647) : (xI z).toNatClampNeg = z.toNat := by
  show (xI z).toInt.toNat = z.toNat
  rw [xI_toInt ⟨by omega, h.2⟩]
theorem xI_in {z : Int} {n : Nat} (h : 0 ≤ z ∧ z < n ∧ z ≤ 2147483647) : vp_in (xI z) n := by
  rw [vp_in_iff, xI_toInt ⟨by omega, h.2.2⟩]
  exact ⟨h.1, h.2.1⟩
theorem xL_add (a b : Int) : xL a + xL b = xL (a + b) := (Int64.ofInt_add a b).symm
theorem xL_mul (a b : Int) : xL a * xL b = xL (a * b) := (Int64.ofInt_mul a b).symm
theorem xL_of (x : Int64) : xL x.toInt = x := Int64.ofInt_toInt x
theorem xL_toInt {z : Int} (h : -9223372036854775808 ≤ z ∧ z ≤ 9223372036854775807) : (xL z).toInt = z := Int64.toInt_ofInt_of_le (by have := h.1; omega) (by have := h.2; omega)
theorem xL_rng (x : Int64) : -9223372036854775808 ≤ x.toInt ∧ x.toInt ≤ 9223372036854775807 := ⟨by have := Int64.le_toInt x; omega, by have := Int64.toInt_lt x; omega⟩
theorem xL_i (z : Int) : (xL z).toInt32 = xI z := Int64.toInt32_ofInt
theorem xI_l {z : Int} (h : -2147483648 ≤ z ∧ z ≤ 2147483647) : (xI z).toInt64 = xL z := by
  refine Int64.toInt_inj.mp ?_
  rw [Int32.toInt_toInt64, xI_toInt h, xL_toInt ⟨by omega, by omega⟩]
/-! a condition as the int 1 or 0 -/
noncomputable def xb (p : Prop) : Int32 := @ite Int32 p (Classical.propDecidable p) 1 0
theorem xb_t {p : Prop} (h : p) : xb p = 1 := if_pos h
theorem xb_f {p : Prop} (h : ¬ p) : xb p = 0 := if_neg h
theorem xb_1 {p : Prop} (h : p) : xI 1 = xb p := (xb_t h).symm
theorem xb_0 {p : Prop} (h : ¬ p) : xI 0 = xb p := (xb_f h).symm
theorem xb_eq0 {p : Prop} : xb p = 0 ↔ ¬ p := by
  by_cases h : p
  · rw [xb_t h]; exact ⟨fun e => absurd e (by decide), fun e => absurd h e⟩
  · rw [xb_f h]; exact ⟨fun _ => h, fun _ => rfl⟩
theorem xb_iff {p q : Prop} (h : p ↔ q) : xb p = xb q := by rw [propext h]
theorem xb_or (p : Prop) : xb p = xI 0 ∨ xb p = xI 1 := by
  by_cases h : p
  · exact Or.inr (xb_t h)
  · exact Or.inl (xb_f h)
theorem xb_nar (p : Prop) : narrow .boolean (.int (xb p)) = .int (xb p) := by
  rcases xb_or p with h | h <;> rw [h] <;> rfl
theorem xb_vp (p : Prop) : vp_nar .boolean (xb p) = xb p := by
  rcases xb_or p with h | h <;> rw [h] <;> rfl
theorem xb_fit (p : Prop) : fits .boolean (.int (xb p)) = true := by
  rcases xb_or p with h | h <;> rw [h] <;> rfl
noncomputable def xd (p : Prop) : Int := @ite Int p (Classical.propDecidable p) 1 0
theorem xd_t {p : Prop} (h : p) : xd p = 1 := if_pos h
theorem xd_f {p : Prop} (h : ¬ p) : xd p = 0 := if_neg h
/-! long compares -/
def xcmp (a b : Int) : Int := if b < a then 1 else if a = b then 0 else -1
theorem xcmp_e {a b : Int} (ha : -9223372036854775808 ≤ a ∧ a ≤ 9223372036854775807) (hb : -9223372036854775808 ≤ b ∧ b ≤ 9223372036854775807) : lg_cmp (xL a) (xL b) = xI (xcmp a b) := by
  unfold lg_cmp xcmp
  simp only [gt_iff_lt, Int64.lt_iff_toInt_lt, ← Int64.toInt_inj, xL_toInt ha, xL_toInt hb]
  by_cases h : b < a
  · rw [if_pos h, if_pos h]; rfl
  · rw [if_neg h, if_neg h]
    by_cases h2 : a = b
    · rw [if_pos h2, if_pos h2]; rfl
    · rw [if_neg h2, if_neg h2]; rfl
theorem xcmp_r (a b : Int) : -2147483648 ≤ xcmp a b ∧ xcmp a b ≤ 2147483647 := by
  unfold xcmp
  split
  · omega
  · split <;> omega
theorem xcmp_le {a b : Int} : xcmp a b ≤ 0 ↔ a ≤ b := by
  unfold xcmp
  split
  · omega
  · split <;> omega
theorem xcmp_lt {a b : Int} : xcmp a b < 0 ↔ a < b := by
  unfold xcmp
  split
  · omega
  · split <;> omega
theorem xcmp_eq {a b : Int} : xcmp a b = 0 ↔ a = b := by
  unfold xcmp
  split
  · omega
  · split <;> omega
/-! the world: cells by their numbers -/
def xw (n : Nat) (ad : Nat → Nat) (en : Nat → va_E) : va_W := (List.range n).map (fun i => (ad i, en i))
theorem xw_at {n : Nat} {ad : Nat → Nat} {en : Nat → va_E} {i : Nat} (h : i < n) : (xw n ad en)[i]? = some (ad i, en i) := by
  unfold xw
  rw [List.getElem?_map, List.getElem?_range h]
  rfl
theorem xw_ate {n : Nat} {ad : Nat → Nat} {en : Nat → va_E} {i : Nat} {e : va_E} (h : i < n) (he : en i = e) : (xw n ad en)[i]? = some (ad i, e) := by rw [xw_at h, he]
theorem xw_of {n : Nat} {ad : Nat → Nat} {en : Nat → va_E} {k : Nat} {q : Nat × va_E} (h : (xw n ad en)[k]? = some q) : k < n ∧ q = (ad k, en k) := by
  have hl : k < n := by
    have h1 := (List.getElem?_eq_some_iff.mp h).1
    unfold xw at h1
    rw [List.length_map, List.length_range] at h1
    exact h1
  exact ⟨hl, Option.some.inj (h.symm.trans (xw_at hl))⟩
theorem xw_set {n : Nat} {ad : Nat → Nat} {en : Nat → va_E} {i : Nat} (h : i < n) (e : va_E) : (xw n ad en).set i (ad i, e) = xw n ad (va_up en i e) := by
  refine List.ext_getElem? fun k => ?_
  by_cases hk : k < n
  · rw [xw_at hk]
    by_cases hki : k = i
    · subst hki
      rw [List.getElem?_set_self (by unfold xw; rw [List.length_map, List.length_range]; exact hk), va_up_self]
    · rw [List.getElem?_set_ne (Ne.symm hki), xw_at hk, va_up_ne _ _ hki]
  · rw [List.getElem?_eq_none (by rw [List.length_set]; unfold xw; rw [List.length_map, List.length_range]; omega), List.getElem?_eq_none (by unfold xw; rw [List.length_map, List.length_range]; omega)]
theorem xw_push {n : Nat} {ad : Nat → Nat} {en : Nat → va_E} {q : Nat} {e : va_E} : xw n ad en ++ [(q, e)] = xw (n + 1) (va_up ad n q) (va_up en n e) := by
  unfold xw
  rw [List.range_succ, List.map_append]
  congr 1
  · refine List.map_congr_left fun i hi => ?_
    have h := List.mem_range.mp hi
    rw [va_up_ne _ _ (by omega), va_up_ne _ _ (by omega)]
  · simp [va_up_self]
theorem xw_congr {n : Nat} {ad ad' : Nat → Nat} {en en' : Nat → va_E} (h : ∀ i, i < n → ad i = ad' i) (h2 : ∀ i, i < n → en i = en' i) : xw n ad en = xw n ad' en' := by
  unfold xw
  refine List.map_congr_left fun i hi => ?_
  have := List.mem_range.mp hi
  rw [h i this, h2 i this]
/-- the addresses are apart, and of a kind -/
def xD (A : Nat → Prop) (n : Nat) (ad : Nat → Nat) : Prop := (∀ i j : Nat, i < n → j < n → ad i = ad j → i = j) ∧ ∀ i : Nat, i < n → A (ad i)
theorem xD_to {A : Nat → Prop} {n : Nat} {ad : Nat → Nat} (h : xD A n ad) (en : Nat → va_E) : va_D A (xw n ad en) := by
  refine ⟨fun i j p q hp hq e => ?_, fun k q hk => ?_⟩
  · obtain ⟨h1, rfl⟩ := xw_of hp
    obtain ⟨h2, rfl⟩ := xw_of hq
    exact h.1 i j h1 h2 e
  · obtain ⟨h1, rfl⟩ := xw_of hk
    exact h.2 k h1
theorem xD_of {A : Nat → Prop} {n : Nat} {ad : Nat → Nat} {en : Nat → va_E} (h : va_D A (xw n ad en)) : xD A n ad := ⟨fun i j hi hj e => h.1 i j _ _ (xw_at hi) (xw_at hj) e, fun i hi => h.2 i _ (xw_at hi)⟩
theorem xD_w {A B : Nat → Prop} {n : Nat} {ad : Nat → Nat} (h : xD A n ad) (hAB : ∀ q, A q → B q) : xD B n ad := ⟨h.1, fun i hi => hAB _ (h.2 i hi)⟩
/-- which cells a method may change: the world's, and those that it makes -/
def xA (n : Nat) (ad : Nat → Nat) (sz : Nat) : Nat → Prop := fun q => (∃ i : Nat, i < n ∧ ad i = q) ∨ sz ≤ q
theorem xD_self {A : Nat → Prop} {n : Nat} {ad : Nat → Nat} (h : xD A n ad) (sz : Nat) : xD (xA n ad sz) n ad := ⟨h.1, fun i hi => Or.inl ⟨i, hi, rfl⟩⟩
/-- the arrays' classes -/
abbrev xty (cA : Nat → ClassId) : List (ClassId × FieldType) := [(cA 0, .int), (cA 1, .boolean), (cA 2, .object "RowsOfSigns$Row"), (cA 3, .object "RowsOfSigns$Text"), (cA 4, .object "RowsOfSigns$Cutter")]
/-- the links of private fields of nest mates -/
def xNest : List Cond := [.fieldLinkNest RX0 26 "RowsOfSigns$Row" "size" "I" "RowsOfSigns", .fieldLinkNest RX4 60 "RowsOfSigns$Row" "size" "I" "RowsOfSigns", .fieldLinkNest RX1 33 "RowsOfSigns$Row" "size" "I" "RowsOfSigns", .fieldLinkNest RX4 187 "RowsOfSigns$Parts" "whole" "LRowsOfSigns$Row;" "RowsOfSigns", .fieldLinkNest RX4 181 "RowsOfSigns$Parts" "count" "I" "RowsOfSigns", .fieldLinkNest RX4 105 "RowsOfSigns$Text" "row" "LRowsOfSigns$Row;" "RowsOfSigns", .fieldLinkNest RX4 101 "RowsOfSigns$Text" "missing" "Z" "RowsOfSigns", .fieldLinkNest RX4 207 "RowsOfSigns$Cutter" "missing" "Z" "RowsOfSigns"]
def xN (U : State) : Prop := ∀ w ∈ xNest, va_Nw w U
theorem xN_warm {s U : State} (hW : s.WarmedH U.vm) (h : xN s) : xN U := by
  intro w hw
  have hz := h w hw
  simp only [xNest, List.mem_cons, List.not_mem_nil, or_false] at hw
  rcases hw with rfl | rfl | rfl | rfl | rfl | rfl | rfl | rfl <;> exact va_Nw.warmF hW hz
theorem xN_same {u U : State} (hv : u.vm = U.vm) (h : xN u) : xN U := by
  intro w hw
  have hz := h w hw
  simp only [xNest, List.mem_cons, List.not_mem_nil, or_false] at hw
  rcases hw with rfl | rfl | rfl | rfl | rfl | rfl | rfl | rfl <;> exact va_Nw.same rfl hv hz
/-- what every method finds -/
def xB (D : va_G) (cA : Nat → ClassId) (n : Nat) (ad : Nat → Nat) (en : Nat → va_E) (U : State) : Prop := va_P D vwCl (xw n ad en) U.heap ∧ va_K D vwCl (xty cA) U ∧ xN U
/-- what a method that changes cells finds -/
def xM (D : va_G) (cA : Nat → ClassId) (n : Nat) (ad : Nat → Nat) (en : Nat → va_E) (sz : Nat) (U : State) : Prop := xB D cA n ad en U ∧ U.heap.size = sz ∧ xD (fun _ => True) n ad
/-- what it leaves -/
def xE (D : va_G) (n : Nat) (ad : Nat → Nat) (u : Nat → va_E) (t : State) : Prop := va_P D vwCl (xw n ad u) t.heap
theorem xB_calling {D : va_G} {cA : Nat → ClassId} {n : Nat} {ad : Nat → Nat} {en : Nat → va_E} {U : State} (g : JFrame) (mk : MethodId) (a : Array Value) (h : xB D cA n ad en U) : xB D cA n ad en (U.calling g mk a) := ⟨h.1, va_K.moved (u := U) (U := U.calling g mk a) (Vm.Alike.refl U.vm) h.2.1, xN_same (u := U) (U := U.calling g mk a) rfl h.2.2⟩
theorem xB_blind {D : va_G} {cA : Nat → ClassId} {n : Nat} {ad : Nat → Nat} {en : Nat → va_E} {av : List Value} : FrameBlind (va_Pc av (xB D cA n ad en)) := fun a _ g mk q => ⟨q.1, xB_calling g mk a q.2⟩
theorem xM_blind {D : va_G} {cA : Nat → ClassId} {n : Nat} {ad : Nat → Nat} {en : Nat → va_E} {sz : Nat} {av : List Value} : FrameBlind (va_Pc av (xM D cA n ad en sz)) := fun a _ g mk q => ⟨q.1, xB_calling g mk a q.2.1, q.2.2.1, q.2.2.2⟩
theorem xT_blind {av : List Value} : FrameBlind (va_Pc av (fun _ => True)) := fun _ _ _ _ q => ⟨q.1, trivial⟩
theorem xB_of {D : va_G} {cA : Nat → ClassId} {n : Nat} {ad : Nat → Nat} {en : Nat → va_E} {s U : State} {H : Heap} (hK : va_K D vwCl (xty cA) s) (hN : xN s) (hP : va_P D vwCl (xw n ad en) H) (hU : U.heap = H) (hW : s.WarmedH U.vm) : xB D cA n ad en U := ⟨by rw [hU]; exact hP, va_K.moved hW.alike hK, xN_warm hW hN⟩
end
section
/-! rows: an instruction each, over whole numbers and the numbered world -/
section XR1
variable {p : Program} {l : Launch} {e : Env} {R : Room} {s : State} {m : MethodId} {args : Array Value} {below : List Frame} {meth : Method} {c : Code} {H : Heap} {locs : List Loc} {cells slots : Nat} {Q : State → Prop}
variable {cc : ByteArray} {pc : Nat} {ls : Array Slot} {rest : List Value}
theorem x_iconst (hx : p.tables.exec = Jvm.exec) (hb : c.code = cc) {k : Int} (hdg : decode cc pc = .ok (.iconst k, 1)) (kk : W p l e R s m args below meth c H locs cells slots Q (F0 m (pc + 1) ls (.int (xI k) :: rest))) : W p l e R s m args below meth c H locs cells slots Q (F0 m pc ls rest) := lv_iconst hx hb hdg rfl kk
theorem x_bipush (hx : p.tables.exec = Jvm.exec) (hb : c.code = cc) {k : Int} (hdg : decode cc pc = .ok (.bipush k, 2)) (hk : (Int8.ofInt k).toInt32 = xI k) (kk : W p l e R s m args below meth c H locs cells slots Q (F0 m (pc + 2) ls (.int (xI k) :: rest))) : W p l e R s m args below meth c H locs cells slots Q (F0 m pc ls rest) := lv_bipush hx hb hdg hk kk
theorem x_sipush (hx : p.tables.exec = Jvm.exec) (hb : c.code = cc) {k : Int} (hdg : decode cc pc = .ok (.sipush k, 3)) (hk : (Int16.ofInt k).toInt32 = xI k) (kk : W p l e R s m args below meth c H locs cells slots Q (F0 m (pc + 3) ls (.int (xI k) :: rest))) : W p l e R s m args below meth c H locs cells slots Q (F0 m pc ls rest) := lv_sipush hx hb hdg hk kk
theorem x_iadd (hx : p.tables.exec = Jvm.exec) (hb : c.code = cc) {a b : Int} (hdg : decode cc pc = .ok (.iadd, 1)) (kk : W p l e R s m args below meth c H locs cells slots Q (F0 m (pc + 1) ls (.int (xI (a + b)) :: rest))) : W p l e R s m args below meth c H locs cells slots Q (F0 m pc ls (.int (xI b) :: .int (xI a) :: rest)) := lv_iadd hx hb hdg (by rw [xI_add]; exact kk)
theorem x_isub (hx : p.tables.exec = Jvm.exec) (hb : c.code = cc) {a b : Int} (hdg : decode cc pc = .ok (.isub, 1)) (kk : W p l e R s m args below meth c H locs cells slots Q (F0 m (pc + 1) ls (.int (xI (a - b)) :: rest))) : W p l e R s m args below meth c H locs cells slots Q (F0 m pc ls (.int (xI b) :: .int (xI a) :: rest)) := lv_isub hx hb hdg (by rw [xI_sub]; exact kk)
theorem x_imul (hx : p.tables.exec = Jvm.exec) (hb : c.code = cc) {a b : Int} (hdg : decode cc pc = .ok (.imul, 1)) (kk : W p l e R s m args below meth c H locs cells slots Q (F0 m (pc + 1) ls (.int (xI (a * b)) :: rest))) : W p l e R s m args below meth c H locs cells slots Q (F0 m pc ls (.int (xI b) :: .int (xI a) :: rest)) := lv_imul hx hb hdg (by rw [xI_mul]; exact kk)
theorem x_ineg (hx : p.tables.exec = Jvm.exec) (hb : c.code = cc) {a : Int} (hdg : decode cc pc = .ok (.ineg, 1)) (kk : W p l e R s m args below meth c H locs cells slots Q (F0 m (pc + 1) ls (.int (xI (-a)) :: rest))) : W p l e R s m args below meth c H locs cells slots Q (F0 m pc ls (.int (xI a) :: rest)) := lv_ineg hx hb hdg (by rw [xI_neg]; exact kk)
theorem x_iinc (hx : p.tables.exec = Jvm.exec) (hb : c.code = cc) {i nL : Nat} (k : Nat) {n a : Int} {lv lv' : List (Nat × Value)} (hdg : decode cc pc = .ok (.iinc i n, 3)) (h : lv_has ls nL lv) (hk : lv[k]? = some (i, .int (xI a))) (hn : i < nL) (hl : (i, Value.int (xI (a + n))) :: lv.filter (fun q => !(q.1 == i) && !(q.1 + 1 == i && q.2.category == 2)) = lv')
    (kk : ∀ ls' : Array Slot, lv_has ls' nL lv' → W p l e R s m args below meth c H locs cells slots Q (F0 m (pc + 3) ls' rest)) : W p l e R s m args below meth c H locs cells slots Q (F0 m pc ls rest) := lv_iinc (v := xI (a + n)) (lv' := lv') hx hb hdg h hk (by rw [← xI_add]; rfl) hn hl kk
/-- another name for the number on top -/
theorem x_to (b : Int) {a : Int} (h : a = b) (kk : W p l e R s m args below meth c H locs cells slots Q (F0 m pc ls (.int (xI b) :: rest))) : W p l e R s m args below meth c H locs cells slots Q (F0 m pc ls (.int (xI a) :: rest)) := by rw [h]; exact kk
theorem x_toL (b : Int) {a : Int} (h : a = b) (kk : W p l e R s m args below meth c H locs cells slots Q (F0 m pc ls (.long (xL b) :: rest))) : W p l e R s m args below meth c H locs cells slots Q (F0 m pc ls (.long (xL a) :: rest)) := by rw [h]; exact kk
theorem x_toi {x : Int32} (b : Int) (h : x = xI b) (kk : W p l e R s m args below meth c H locs cells slots Q (F0 m pc ls (.int (xI b) :: rest))) : W p l e R s m args below meth c H locs cells slots Q (F0 m pc ls (.int x :: rest)) := by rw [h]; exact kk
theorem x_tol {x : Int64} (y : Int64) (h : x = y) (kk : W p l e R s m args below meth c H locs cells slots Q (F0 m pc ls (.long y :: rest))) : W p l e R s m args below meth c H locs cells slots Q (F0 m pc ls (.long x :: rest)) := by rw [h]; exact kk
theorem x_tor {x y : Nat} (h : x = y) (kk : W p l e R s m args below meth c H locs cells slots Q (F0 m pc ls (.ref y :: rest))) : W p l e R s m args below meth c H locs cells slots Q (F0 m pc ls (.ref x :: rest)) := by rw [h]; exact kk
theorem x_top {p1 q1 : Prop} (h : p1 ↔ q1) (kk : W p l e R s m args below meth c H locs cells slots Q (F0 m pc ls (.int (xb q1) :: rest))) : W p l e R s m args below meth c H locs cells slots Q (F0 m pc ls (.int (xb p1) :: rest)) := by rw [xb_iff h]; exact kk
theorem x_icmp_eq (hx : p.tables.exec = Jvm.exec) (hb : c.code = cc) {a b : Int} {off : Int} {tgt : Nat} (hdg : decode cc pc = .ok (.if_icmp .eq off, 3)) (ht : (pc : Int) + off = (tgt : Int)) (hab : (-2147483648 ≤ a ∧ a ≤ 2147483647) ∧ (-2147483648 ≤ b ∧ b ≤ 2147483647))
    (kt : a = b → W p l e R s m args below meth c H locs cells slots Q (F0 m tgt ls rest)) (kf : ¬ a = b → W p l e R s m args below meth c H locs cells slots Q (F0 m (pc + 3) ls rest)) : W p l e R s m args below meth c H locs cells slots Q (F0 m pc ls (.int (xI b) :: .int (xI a) :: rest)) := by
  refine lv_icmp_eq (tgt := tgt) hx hb hdg ht (fun q => kt ?_) (fun q => kf ?_)
  · simp only [ge_iff_le, gt_iff_lt, ne_eq, Int32.lt_iff_toInt_lt, Int32.le_iff_toInt_le, ← Int32.toInt_inj, xI_toInt hab.1, xI_toInt hab.2] at q
    omega
  · simp only [ge_iff_le, gt_iff_lt, ne_eq, Int32.lt_iff_toInt_lt, Int32.le_iff_toInt_le, ← Int32.toInt_inj, xI_toInt hab.1, xI_toInt hab.2] at q
    omega
theorem x_if_eq (hx : p.tables.exec = Jvm.exec) (hb : c.code = cc) {a : Int} {off : Int} {tgt : Nat} (hdg : decode cc pc = .ok (.ifCond .eq off, 3)) (ht : (pc : Int) + off = (tgt : Int)) (ha : -2147483648 ≤ a ∧ a ≤ 2147483647)
    (kt : a = 0 → W p l e R s m args below meth c H locs cells slots Q (F0 m tgt ls rest)) (kf : ¬ a = 0 → W p l e R s m args below meth c H locs cells slots Q (F0 m (pc + 3) ls rest)) : W p l e R s m args below meth c H locs cells slots Q (F0 m pc ls (.int (xI a) :: rest)) := by
  refine lv_if_eq (tgt := tgt) hx hb hdg ht (fun q => kt ?_) (fun q => kf ?_)
  · simp only [ge_iff_le, gt_iff_lt, ne_eq, Int32.lt_iff_toInt_lt, Int32.le_iff_toInt_le, ← Int32.toInt_inj, xI_toInt ha, Int32.toInt_zero] at q
    omega
  · simp only [ge_iff_le, gt_iff_lt, ne_eq, Int32.lt_iff_toInt_lt, Int32.le_iff_toInt_le, ← Int32.toInt_inj, xI_toInt ha, Int32.toInt_zero] at q
    omega
theorem x_icmp_ne (hx : p.tables.exec = Jvm.exec) (hb : c.code = cc) {a b : Int} {off : Int} {tgt : Nat} (hdg : decode cc pc = .ok (.if_icmp .ne off, 3)) (ht : (pc : Int) + off = (tgt : Int)) (hab : (-2147483648 ≤ a ∧ a ≤ 2147483647) ∧ (-2147483648 ≤ b ∧ b ≤ 2147483647))
    (kt : ¬ a = b → W p l e R s m args below meth c H locs cells slots Q (F0 m tgt ls rest)) (kf : a = b → W p l e R s m args below meth c H locs cells slots Q (F0 m (pc + 3) ls rest)) : W p l e R s m args below meth c H locs cells slots Q (F0 m pc ls (.int (xI b) :: .int (xI a) :: rest)) := by
  refine lv_icmp_ne (tgt := tgt) hx hb hdg ht (fun q => kt ?_) (fun q => kf ?_)
  · simp only [ge_iff_le, gt_iff_lt, ne_eq, Int32.lt_iff_toInt_lt, Int32.le_iff_toInt_le, ← Int32.toInt_inj, xI_toInt hab.1, xI_toInt hab.2] at q
    omega
  · simp only [ge_iff_le, gt_iff_lt, ne_eq, Int32.lt_iff_toInt_lt, Int32.le_iff_toInt_le, ← Int32.toInt_inj, xI_toInt hab.1, xI_toInt hab.2] at q
    omega
theorem x_if_ne (hx : p.tables.exec = Jvm.exec) (hb : c.code = cc) {a : Int} {off : Int} {tgt : Nat} (hdg : decode cc pc = .ok (.ifCond .ne off, 3)) (ht : (pc : Int) + off = (tgt : Int)) (ha : -2147483648 ≤ a ∧ a ≤ 2147483647)
    (kt : ¬ a = 0 → W p l e R s m args below meth c H locs cells slots Q (F0 m tgt ls rest)) (kf : a = 0 → W p l e R s m args below meth c H locs cells slots Q (F0 m (pc + 3) ls rest)) : W p l e R s m args below meth c H locs cells slots Q (F0 m pc ls (.int (xI a) :: rest)) := by
  refine lv_if_ne (tgt := tgt) hx hb hdg ht (fun q => kt ?_) (fun q => kf ?_)
  · simp only [ge_iff_le, gt_iff_lt, ne_eq, Int32.lt_iff_toInt_lt, Int32.le_iff_toInt_le, ← Int32.toInt_inj, xI_toInt ha, Int32.toInt_zero] at q
    omega
  · simp only [ge_iff_le, gt_iff_lt, ne_eq, Int32.lt_iff_toInt_lt, Int32.le_iff_toInt_le, ← Int32.toInt_inj, xI_toInt ha, Int32.toInt_zero] at q
    omega
theorem x_icmp_lt (hx : p.tables.exec = Jvm.exec) (hb : c.code = cc) {a b : Int} {off : Int} {tgt : Nat} (hdg : decode cc pc = .ok (.if_icmp .lt off, 3)) (ht : (pc : Int) + off = (tgt : Int)) (hab : (-2147483648 ≤ a ∧ a ≤ 2147483647) ∧ (-2147483648 ≤ b ∧ b ≤ 2147483647))
    (kt : a < b → W p l e R s m args below meth c H locs cells slots Q (F0 m tgt ls rest)) (kf : b ≤ a → W p l e R s m args below meth c H locs cells slots Q (F0 m (pc + 3) ls rest)) : W p l e R s m args below meth c H locs cells slots Q (F0 m pc ls (.int (xI b) :: .int (xI a) :: rest)) := by
  refine lv_icmp_lt (tgt := tgt) hx hb hdg ht (fun q => kt ?_) (fun q => kf ?_)
  · simp only [ge_iff_le, gt_iff_lt, ne_eq, Int32.lt_iff_toInt_lt, Int32.le_iff_toInt_le, ← Int32.toInt_inj, xI_toInt hab.1, xI_toInt hab.2] at q
    omega
  · simp only [ge_iff_le, gt_iff_lt, ne_eq, Int32.lt_iff_toInt_lt, Int32.le_iff_toInt_le, ← Int32.toInt_inj, xI_toInt hab.1, xI_toInt hab.2] at q
    omega
theorem x_if_lt (hx : p.tables.exec = Jvm.exec) (hb : c.code = cc) {a : Int} {off : Int} {tgt : Nat} (hdg : decode cc pc = .ok (.ifCond .lt off, 3)) (ht : (pc : Int) + off = (tgt : Int)) (ha : -2147483648 ≤ a ∧ a ≤ 2147483647)
    (kt : a < 0 → W p l e R s m args below meth c H locs cells slots Q (F0 m tgt ls rest)) (kf : 0 ≤ a → W p l e R s m args below meth c H locs cells slots Q (F0 m (pc + 3) ls rest)) : W p l e R s m args below meth c H locs cells slots Q (F0 m pc ls (.int (xI a) :: rest)) := by
  refine lv_if_lt (tgt := tgt) hx hb hdg ht (fun q => kt ?_) (fun q => kf ?_)
  · simp only [ge_iff_le, gt_iff_lt, ne_eq, Int32.lt_iff_toInt_lt, Int32.le_iff_toInt_le, ← Int32.toInt_inj, xI_toInt ha, Int32.toInt_zero] at q
    omega
  · simp only [ge_iff_le, gt_iff_lt, ne_eq, Int32.lt_iff_toInt_lt, Int32.le_iff_toInt_le, ← Int32.toInt_inj, xI_toInt ha, Int32.toInt_zero] at q
    omega
theorem x_icmp_ge (hx : p.tables.exec = Jvm.exec) (hb : c.code = cc) {a b : Int} {off : Int} {tgt : Nat} (hdg : decode cc pc = .ok (.if_icmp .ge off, 3)) (ht : (pc : Int) + off = (tgt : Int)) (hab : (-2147483648 ≤ a ∧ a ≤ 2147483647) ∧ (-2147483648 ≤ b ∧ b ≤ 2147483647))
    (kt : b ≤ a → W p l e R s m args below meth c H locs cells slots Q (F0 m tgt ls rest)) (kf : a < b → W p l e R s m args below meth c H locs cells slots Q (F0 m (pc + 3) ls rest)) : W p l e R s m args below meth c H locs cells slots Q (F0 m pc ls (.int (xI b) :: .int (xI a) :: rest)) := by
  refine lv_icmp_ge (tgt := tgt) hx hb hdg ht (fun q => kt ?_) (fun q => kf ?_)
  · simp only [ge_iff_le, gt_iff_lt, ne_eq, Int32.lt_iff_toInt_lt, Int32.le_iff_toInt_le, ← Int32.toInt_inj, xI_toInt hab.1, xI_toInt hab.2] at q
    omega
  · simp only [ge_iff_le, gt_iff_lt, ne_eq, Int32.lt_iff_toInt_lt, Int32.le_iff_toInt_le, ← Int32.toInt_inj, xI_toInt hab.1, xI_toInt hab.2] at q
    omega
theorem x_if_ge (hx : p.tables.exec = Jvm.exec) (hb : c.code = cc) {a : Int} {off : Int} {tgt : Nat} (hdg : decode cc pc = .ok (.ifCond .ge off, 3)) (ht : (pc : Int) + off = (tgt : Int)) (ha : -2147483648 ≤ a ∧ a ≤ 2147483647)
    (kt : 0 ≤ a → W p l e R s m args below meth c H locs cells slots Q (F0 m tgt ls rest)) (kf : a < 0 → W p l e R s m args below meth c H locs cells slots Q (F0 m (pc + 3) ls rest)) : W p l e R s m args below meth c H locs cells slots Q (F0 m pc ls (.int (xI a) :: rest)) := by
  refine lv_if_ge (tgt := tgt) hx hb hdg ht (fun q => kt ?_) (fun q => kf ?_)
  · simp only [ge_iff_le, gt_iff_lt, ne_eq, Int32.lt_iff_toInt_lt, Int32.le_iff_toInt_le, ← Int32.toInt_inj, xI_toInt ha, Int32.toInt_zero] at q
    omega
  · simp only [ge_iff_le, gt_iff_lt, ne_eq, Int32.lt_iff_toInt_lt, Int32.le_iff_toInt_le, ← Int32.toInt_inj, xI_toInt ha, Int32.toInt_zero] at q
    omega
theorem x_icmp_gt (hx : p.tables.exec = Jvm.exec) (hb : c.code = cc) {a b : Int} {off : Int} {tgt : Nat} (hdg : decode cc pc = .ok (.if_icmp .gt off, 3)) (ht : (pc : Int) + off = (tgt : Int)) (hab : (-2147483648 ≤ a ∧ a ≤ 2147483647) ∧ (-2147483648 ≤ b ∧ b ≤ 2147483647))
    (kt : b < a → W p l e R s m args below meth c H locs cells slots Q (F0 m tgt ls rest)) (kf : a ≤ b → W p l e R s m args below meth c H locs cells slots Q (F0 m (pc + 3) ls rest)) : W p l e R s m args below meth c H locs cells slots Q (F0 m pc ls (.int (xI b) :: .int (xI a) :: rest)) := by
  refine lv_icmp_gt (tgt := tgt) hx hb hdg ht (fun q => kt ?_) (fun q => kf ?_)
  · simp only [ge_iff_le, gt_iff_lt, ne_eq, Int32.lt_iff_toInt_lt, Int32.le_iff_toInt_le, ← Int32.toInt_inj, xI_toInt hab.1, xI_toInt hab.2] at q
    omega
  · simp only [ge_iff_le, gt_iff_lt, ne_eq, Int32.lt_iff_toInt_lt, Int32.le_iff_toInt_le, ← Int32.toInt_inj, xI_toInt hab.1, xI_toInt hab.2] at q
    omega
theorem x_if_gt (hx : p.tables.exec = Jvm.exec) (hb : c.code = cc) {a : Int} {off : Int} {tgt : Nat} (hdg : decode cc pc = .ok (.ifCond .gt off, 3)) (ht : (pc : Int) + off = (tgt : Int)) (ha : -2147483648 ≤ a ∧ a ≤ 2147483647)
    (kt : 0 < a → W p l e R s m args below meth c H locs cells slots Q (F0 m tgt ls rest)) (kf : a ≤ 0 → W p l e R s m args below meth c H locs cells slots Q (F0 m (pc + 3) ls rest)) : W p l e R s m args below meth c H locs cells slots Q (F0 m pc ls (.int (xI a) :: rest)) := by
  refine lv_if_gt (tgt := tgt) hx hb hdg ht (fun q => kt ?_) (fun q => kf ?_)
  · simp only [ge_iff_le, gt_iff_lt, ne_eq, Int32.lt_iff_toInt_lt, Int32.le_iff_toInt_le, ← Int32.toInt_inj, xI_toInt ha, Int32.toInt_zero] at q
    omega
  · simp only [ge_iff_le, gt_iff_lt, ne_eq, Int32.lt_iff_toInt_lt, Int32.le_iff_toInt_le, ← Int32.toInt_inj, xI_toInt ha, Int32.toInt_zero] at q
    omega
theorem x_icmp_le (hx : p.tables.exec = Jvm.exec) (hb : c.code = cc) {a b : Int} {off : Int} {tgt : Nat} (hdg : decode cc pc = .ok (.if_icmp .le off, 3)) (ht : (pc : Int) + off = (tgt : Int)) (hab : (-2147483648 ≤ a ∧ a ≤ 2147483647) ∧ (-2147483648 ≤ b ∧ b ≤ 2147483647))
    (kt : a ≤ b → W p l e R s m args below meth c H locs cells slots Q (F0 m tgt ls rest)) (kf : b < a → W p l e R s m args below meth c H locs cells slots Q (F0 m (pc + 3) ls rest)) : W p l e R s m args below meth c H locs cells slots Q (F0 m pc ls (.int (xI b) :: .int (xI a) :: rest)) := by
  refine lv_icmp_le (tgt := tgt) hx hb hdg ht (fun q => kt ?_) (fun q => kf ?_)
  · simp only [ge_iff_le, gt_iff_lt, ne_eq, Int32.lt_iff_toInt_lt, Int32.le_iff_toInt_le, ← Int32.toInt_inj, xI_toInt hab.1, xI_toInt hab.2] at q
    omega
  · simp only [ge_iff_le, gt_iff_lt, ne_eq, Int32.lt_iff_toInt_lt, Int32.le_iff_toInt_le, ← Int32.toInt_inj, xI_toInt hab.1, xI_toInt hab.2] at q
    omega
theorem x_if_le (hx : p.tables.exec = Jvm.exec) (hb : c.code = cc) {a : Int} {off : Int} {tgt : Nat} (hdg : decode cc pc = .ok (.ifCond .le off, 3)) (ht : (pc : Int) + off = (tgt : Int)) (ha : -2147483648 ≤ a ∧ a ≤ 2147483647)
    (kt : a ≤ 0 → W p l e R s m args below meth c H locs cells slots Q (F0 m tgt ls rest)) (kf : 0 < a → W p l e R s m args below meth c H locs cells slots Q (F0 m (pc + 3) ls rest)) : W p l e R s m args below meth c H locs cells slots Q (F0 m pc ls (.int (xI a) :: rest)) := by
  refine lv_if_le (tgt := tgt) hx hb hdg ht (fun q => kt ?_) (fun q => kf ?_)
  · simp only [ge_iff_le, gt_iff_lt, ne_eq, Int32.lt_iff_toInt_lt, Int32.le_iff_toInt_le, ← Int32.toInt_inj, xI_toInt ha, Int32.toInt_zero] at q
    omega
  · simp only [ge_iff_le, gt_iff_lt, ne_eq, Int32.lt_iff_toInt_lt, Int32.le_iff_toInt_le, ← Int32.toInt_inj, xI_toInt ha, Int32.toInt_zero] at q
    omega
theorem x_ifb_eq (hx : p.tables.exec = Jvm.exec) (hb : c.code = cc) {p1 : Prop} {off : Int} {tgt : Nat} (hdg : decode cc pc = .ok (.ifCond .eq off, 3)) (ht : (pc : Int) + off = (tgt : Int))
    (kt : ¬ p1 → W p l e R s m args below meth c H locs cells slots Q (F0 m tgt ls rest)) (kf : p1 → W p l e R s m args below meth c H locs cells slots Q (F0 m (pc + 3) ls rest)) : W p l e R s m args below meth c H locs cells slots Q (F0 m pc ls (.int (xb p1) :: rest)) :=
  lv_if_eq (tgt := tgt) hx hb hdg ht (fun q => kt (xb_eq0.mp q)) (fun q => kf (Classical.not_not.mp (fun z => q (xb_eq0.mpr z))))
theorem x_ifb_ne (hx : p.tables.exec = Jvm.exec) (hb : c.code = cc) {p1 : Prop} {off : Int} {tgt : Nat} (hdg : decode cc pc = .ok (.ifCond .ne off, 3)) (ht : (pc : Int) + off = (tgt : Int))
    (kt : p1 → W p l e R s m args below meth c H locs cells slots Q (F0 m tgt ls rest)) (kf : ¬ p1 → W p l e R s m args below meth c H locs cells slots Q (F0 m (pc + 3) ls rest)) : W p l e R s m args below meth c H locs cells slots Q (F0 m pc ls (.int (xb p1) :: rest)) :=
  lv_if_ne (tgt := tgt) hx hb hdg ht (fun q => kt (Classical.not_not.mp (fun z => q (xb_eq0.mpr z)))) (fun q => kf (xb_eq0.mp q))
end XR1
end
section
/-! rows on the world -/
section XR2
variable {p : Program} {l : Launch} {e : Env} {R : Room} {s : State} {m : MethodId} {args : Array Value} {below : List Frame} {meth : Method} {c : Code} {H : Heap} {locs : List Loc} {cells slots : Nat} {Q : State → Prop}
variable {cc : ByteArray} {pc : Nat} {ls : Array Slot} {rest : List Value} {D : va_G} {cA : Nat → ClassId} {n : Nat} {ad : Nat → Nat} {en : Nat → va_E} {A : Nat → Prop} {H0 : Heap} {Ts : List Cond}
theorem x_get (hx : p.tables.exec = Jvm.exec) (hb : c.code = cc) {own C : String} {T : u_T} {N ci index : Nat} (hts : ∀ w ∈ xU, w.before args s = true) (hin : ∀ w ∈ u_ws C T N, w ∈ xU) (hown : s.vm.findClass own = some m.cls) (hK : va_K D vwCl (xty cA) s) (hP : va_P D vwCl (xw n ad en) H) {i : Nat} (hi : i < n) {fs : List Value} (he : en i = .inr (ci, fs)) (hc : vwCl[ci]? = some (C, T, N)) (k : Nat) (hk : k < N) (hlink : Cond.fieldLink own index (T k).1 (T k).2.1 (T k).2.2.1 ∈ xU) {v : Value} (hv : fs[k]? = some v) (hdg : decode cc pc = .ok (.getfield index, 3))
    (kk : W p l e R s m args below meth c H locs cells slots Q (F0 m (pc + 3) ls (v :: rest))) : W p l e R s m args below meth c H locs cells slots Q (F0 m pc ls (.ref (ad i) :: rest)) :=
  va_get hx hb hts hin hown hK hP i (xw_ate hi he) hc k hk (hts _ hlink) (fun _ h => h) hv hdg kk
theorem x_getn (hx : p.tables.exec = Jvm.exec) (hb : c.code = cc) {own C host : String} {T : u_T} {N ci index : Nat} (hts : ∀ w ∈ xU, w.before args s = true) (hin : ∀ w ∈ u_ws C T N, w ∈ xU) (hown : s.vm.findClass own = some m.cls) (hN : xN s) (hK : va_K D vwCl (xty cA) s) (hP : va_P D vwCl (xw n ad en) H) {i : Nat} (hi : i < n) {fs : List Value} (he : en i = .inr (ci, fs)) (hc : vwCl[ci]? = some (C, T, N)) (k : Nat) (hk : k < N) (hlink : Cond.fieldLinkNest own index (T k).1 (T k).2.1 (T k).2.2.1 host ∈ xNest) {v : Value} (hv : fs[k]? = some v) (hdg : decode cc pc = .ok (.getfield index, 3))
    (kk : W p l e R s m args below meth c H locs cells slots Q (F0 m (pc + 3) ls (v :: rest))) : W p l e R s m args below meth c H locs cells slots Q (F0 m pc ls (.ref (ad i) :: rest)) :=
  va_getN hx hb hts hin hown hK hP i (xw_ate hi he) hc k hk (va_Nw.use rfl (hN _ hlink)) (fun _ h => h) hv hdg kk
theorem x_put (hx : p.tables.exec = Jvm.exec) (hb : c.code = cc) {own C : String} {T : u_T} {N ci index : Nat} (hts : ∀ w ∈ xU, w.before args s = true) (hin : ∀ w ∈ u_ws C T N, w ∈ xU) (ty0 : Nat → FieldType) (hty : ∀ k, k < N → parseFieldDescriptor (T k).2.2.1 = some (ty0 k)) (hnm : ∀ a, a < N → ∀ b, b < N → a ≠ b → (T a).2.1 ≠ (T b).2.1) (hown : s.vm.findClass own = some m.cls) (hK : va_K D vwCl (xty cA) s) (hP : va_P D vwCl (xw n ad en) H) (hD : xD A n ad) (hS : va_S A H0 H locs) {i : Nat} (hi : i < n) {fs : List Value} (he : en i = .inr (ci, fs)) (hc : vwCl[ci]? = some (C, T, N)) (k : Nat) (hk : k < N) (hlink : Cond.fieldLink own index (T k).1 (T k).2.1 (T k).2.2.1 ∈ xU) (hfin : (T k).2.2.2 = false) {ty : FieldType} {v : Value} (hd : parseFieldDescriptor (T k).2.2.1 = some ty) (hn : narrow ty v = v) (hfit : fits ty v = true) (hl : k < fs.length)
    (hdg : decode cc pc = .ok (.putfield index, 3)) (kk : ∀ (H1 : Heap) (locs1 : List Loc), va_P D vwCl (xw n ad (va_up en i (.inr (ci, fs.set k v)))) H1 → va_S A H0 H1 locs1 → W p l e R s m args below meth c H1 locs1 cells slots Q (F0 m (pc + 3) ls rest)) : W p l e R s m args below meth c H locs cells slots Q (F0 m pc ls (v :: .ref (ad i) :: rest)) :=
  va_put hx hb hts hin ty0 hty hnm hown hK hP (xD_to hD en) hS i (xw_ate hi he) hc k hk (hts _ hlink) (fun _ h => h) hfin hd hn hfit hl hdg (fun H1 locs1 hP1 _ hS1 => kk H1 locs1 (by rw [← xw_set hi]; exact hP1) hS1)
theorem x_putn (hx : p.tables.exec = Jvm.exec) (hb : c.code = cc) {own C host : String} {T : u_T} {N ci index : Nat} (hts : ∀ w ∈ xU, w.before args s = true) (hin : ∀ w ∈ u_ws C T N, w ∈ xU) (ty0 : Nat → FieldType) (hty : ∀ k, k < N → parseFieldDescriptor (T k).2.2.1 = some (ty0 k)) (hnm : ∀ a, a < N → ∀ b, b < N → a ≠ b → (T a).2.1 ≠ (T b).2.1) (hown : s.vm.findClass own = some m.cls) (hN : xN s) (hK : va_K D vwCl (xty cA) s) (hP : va_P D vwCl (xw n ad en) H) (hD : xD A n ad) (hS : va_S A H0 H locs) {i : Nat} (hi : i < n) {fs : List Value} (he : en i = .inr (ci, fs)) (hc : vwCl[ci]? = some (C, T, N)) (k : Nat) (hk : k < N) (hlink : Cond.fieldLinkNest own index (T k).1 (T k).2.1 (T k).2.2.1 host ∈ xNest) (hfin : (T k).2.2.2 = false) {ty : FieldType} {v : Value} (hd : parseFieldDescriptor (T k).2.2.1 = some ty) (hn : narrow ty v = v) (hfit : fits ty v = true) (hl : k < fs.length)
    (hdg : decode cc pc = .ok (.putfield index, 3)) (kk : ∀ (H1 : Heap) (locs1 : List Loc), va_P D vwCl (xw n ad (va_up en i (.inr (ci, fs.set k v)))) H1 → va_S A H0 H1 locs1 → W p l e R s m args below meth c H1 locs1 cells slots Q (F0 m (pc + 3) ls rest)) : W p l e R s m args below meth c H locs cells slots Q (F0 m pc ls (v :: .ref (ad i) :: rest)) :=
  va_putN hx hb hts hin ty0 hty hnm hown hK hP (xD_to hD en) hS i (xw_ate hi he) hc k hk (va_Nw.use rfl (hN _ hlink)) (fun _ h => h) hfin hd hn hfit hl hdg (fun H1 locs1 hP1 _ hS1 => kk H1 locs1 (by rw [← xw_set hi]; exact hP1) hS1)
theorem x_putF (hx : p.tables.exec = Jvm.exec) (hb : c.code = cc) {own C : String} {T : u_T} {N ci index : Nat} (hts : ∀ w ∈ xU, w.before args s = true) (hin : ∀ w ∈ u_ws C T N, w ∈ xU) (ty0 : Nat → FieldType) (hty : ∀ k, k < N → parseFieldDescriptor (T k).2.2.1 = some (ty0 k)) (hnm : ∀ a, a < N → ∀ b, b < N → a ≠ b → (T a).2.1 ≠ (T b).2.1) (hown : s.vm.findClass own = some m.cls) (hK : va_K D vwCl (xty cA) s) (hP : va_P D vwCl (xw n ad en) H) (hD : xD A n ad) (hS : va_S A H0 H locs) {i : Nat} (hi : i < n) {fs : List Value} (he : en i = .inr (ci, fs)) (hc : vwCl[ci]? = some (C, T, N)) (k : Nat) (hk : k < N) (hlink : Cond.fieldLink own index (T k).1 (T k).2.1 (T k).2.2.1 ∈ xU) (hfin : (T k).2.2.2 = true) (hin2 : meth.name = "<init>") (hdecl : (T k).1 = own) {ty : FieldType} {v : Value} (hd : parseFieldDescriptor (T k).2.2.1 = some ty) (hn : narrow ty v = v) (hfit : fits ty v = true) (hl : k < fs.length)
    (hdg : decode cc pc = .ok (.putfield index, 3)) (kk : ∀ (H1 : Heap) (locs1 : List Loc), va_P D vwCl (xw n ad (va_up en i (.inr (ci, fs.set k v)))) H1 → va_S A H0 H1 locs1 → W p l e R s m args below meth c H1 locs1 cells slots Q (F0 m (pc + 3) ls rest)) : W p l e R s m args below meth c H locs cells slots Q (F0 m pc ls (v :: .ref (ad i) :: rest)) :=
  va_putF hx hb hts hin ty0 hty hnm hown hK hP (xD_to hD en) hS i (xw_ate hi he) hc k hk (hts _ hlink) (fun _ h => h) hfin hin2 hdecl hd hn hfit hl hdg (fun H1 locs1 hP1 _ hS1 => kk H1 locs1 (by rw [← xw_set hi]; exact hP1) hS1)
/-- an int out of an array -/
theorem x_ild (hx : p.tables.exec = Jvm.exec) (hb : c.code = cc) (hK : va_K D vwCl (xty cA) s) (hP : va_P D vwCl (xw n ad en) H) {i : Nat} (hi : i < n) {k : Nat} {f : Nat → Int32} (he : en i = .inl (cA 0, k, .inl f)) {z : Int} (hz : 0 ≤ z ∧ z < k ∧ z ≤ 2147483647) {x : Int} (hf : f z.toNat = xI x) (hdg : decode cc pc = .ok (.iaload, 1))
    (kk : W p l e R s m args below meth c H locs cells slots Q (F0 m (pc + 1) ls (.int (xI x) :: rest))) : W p l e R s m args below meth c H locs cells slots Q (F0 m pc ls (.int (xI z) :: .ref (ad i) :: rest)) :=
  va_iald hx hb hK hP i 0 (xw_ate hi he) rfl (xI_in hz) hdg (by rw [xI_clamp ⟨hz.1, hz.2.2⟩, hf]; exact kk)
theorem x_zld (hx : p.tables.exec = Jvm.exec) (hb : c.code = cc) (hK : va_K D vwCl (xty cA) s) (hP : va_P D vwCl (xw n ad en) H) {i : Nat} (hi : i < n) {k : Nat} {f : Nat → Int32} (he : en i = .inl (cA 1, k, .inl f)) {z : Int} (hz : 0 ≤ z ∧ z < k ∧ z ≤ 2147483647) {p1 : Prop} (hf : f z.toNat = xb p1) (hdg : decode cc pc = .ok (.baload, 1))
    (kk : W p l e R s m args below meth c H locs cells slots Q (F0 m (pc + 1) ls (.int (xb p1) :: rest))) : W p l e R s m args below meth c H locs cells slots Q (F0 m pc ls (.int (xI z) :: .ref (ad i) :: rest)) :=
  va_zald hx hb hK hP i 1 (xw_ate hi he) rfl (xI_in hz) hdg (by rw [xI_clamp ⟨hz.1, hz.2.2⟩, hf]; exact kk)
theorem x_ist (hx : p.tables.exec = Jvm.exec) (hb : c.code = cc) (hK : va_K D vwCl (xty cA) s) (hP : va_P D vwCl (xw n ad en) H) (hD : xD A n ad) (hS : va_S A H0 H locs) {i : Nat} (hi : i < n) {k : Nat} {f : Nat → Int32} (he : en i = .inl (cA 0, k, .inl f)) {z : Int} {x : Int32} (hz : 0 ≤ z ∧ z < k ∧ z ≤ 2147483647) (hdg : decode cc pc = .ok (.iastore, 1))
    (kk : ∀ (H1 : Heap) (locs1 : List Loc), va_P D vwCl (xw n ad (va_up en i (.inl (cA 0, k, .inl (upd f z.toNat x))))) H1 → va_S A H0 H1 locs1 → W p l e R s m args below meth c H1 locs1 cells slots Q (F0 m (pc + 1) ls rest)) : W p l e R s m args below meth c H locs cells slots Q (F0 m pc ls (.int x :: .int (xI z) :: .ref (ad i) :: rest)) :=
  va_iast hx hb hK hP (xD_to hD en) hS i 0 (xw_ate hi he) rfl (xI_in hz) hdg (fun H1 locs1 hP1 _ hS1 => kk H1 locs1 (by rw [xI_clamp ⟨hz.1, hz.2.2⟩, xw_set hi] at hP1; exact hP1) hS1)
theorem x_zst (hx : p.tables.exec = Jvm.exec) (hb : c.code = cc) (hK : va_K D vwCl (xty cA) s) (hP : va_P D vwCl (xw n ad en) H) (hD : xD A n ad) (hS : va_S A H0 H locs) {i : Nat} (hi : i < n) {k : Nat} {f : Nat → Int32} (he : en i = .inl (cA 1, k, .inl f)) {z : Int} {x : Int32} {p1 : Prop} (hxp : x = xb p1) (hz : 0 ≤ z ∧ z < k ∧ z ≤ 2147483647) (hdg : decode cc pc = .ok (.bastore, 1))
    (kk : ∀ (H1 : Heap) (locs1 : List Loc), va_P D vwCl (xw n ad (va_up en i (.inl (cA 1, k, .inl (upd f z.toNat (xb p1)))))) H1 → va_S A H0 H1 locs1 → W p l e R s m args below meth c H1 locs1 cells slots Q (F0 m (pc + 1) ls rest)) : W p l e R s m args below meth c H locs cells slots Q (F0 m pc ls (.int x :: .int (xI z) :: .ref (ad i) :: rest)) := by
  subst hxp
  exact va_zast hx hb hK hP (xD_to hD en) hS i 1 (xw_ate hi he) rfl (xI_in hz) hdg (fun H1 locs1 hP1 _ hS1 => kk H1 locs1 (by rw [xI_clamp ⟨hz.1, hz.2.2⟩, xb_vp, xw_set hi] at hP1; exact hP1) hS1)
theorem x_alen (hx : p.tables.exec = Jvm.exec) (hb : c.code = cc) (hK : va_K D vwCl (xty cA) s) (hP : va_P D vwCl (xw n ad en) H) {i : Nat} (hi : i < n) (t0 : Nat) {k : Nat} {cB : ClassId} {x : (Nat → Int32) ⊕ (Nat → Int64) ⊕ (Nat → UInt32) ⊕ (Nat → UInt64) ⊕ (Nat → Option Nat)} (he : en i = .inl (cB, k, x)) {ty : FieldType} (ht : (xty cA)[t0]? = some (cB, ty)) (hdg : decode cc pc = .ok (.arraylength, 1))
    (kk : W p l e R s m args below meth c H locs cells slots Q (F0 m (pc + 1) ls (.int (xI (k : Int)) :: rest))) : W p l e R s m args below meth c H locs cells slots Q (F0 m pc ls (.ref (ad i) :: rest)) :=
  va_alen hx hb hK hP i t0 (xw_ate hi he) ht (xI_nat k) hdg kk
theorem x_qld (hx : p.tables.exec = Jvm.exec) (hb : c.code = cc) (hK : va_K D vwCl (xty cA) s) (hP : va_P D vwCl (xw n ad en) H) {i : Nat} (hi : i < n) (t0 : Nat) {k : Nat} {cB : ClassId} {C : String} {f : Nat → Option Nat} (he : en i = .inl (cB, k, .inr (.inr (.inr (.inr f))))) (ht : (xty cA)[t0]? = some (cB, .object C)) {z : Int} (hz : 0 ≤ z ∧ z < k ∧ z ≤ 2147483647) {a : Nat} (hf : f z.toNat = some a) (hdg : decode cc pc = .ok (.aaload, 1))
    (kk : W p l e R s m args below meth c H locs cells slots Q (F0 m (pc + 1) ls (.ref a :: rest))) : W p l e R s m args below meth c H locs cells slots Q (F0 m pc ls (.int (xI z) :: .ref (ad i) :: rest)) :=
  va_aldq hx hb hK hP i t0 (xw_ate hi he) ht (xI_in hz) hdg (by rw [xI_clamp ⟨hz.1, hz.2.2⟩, hf]; exact kk)
theorem x_qst (hx : p.tables.exec = Jvm.exec) (hb : c.code = cc) (hK : va_K D vwCl (xty cA) s) (hP : va_P D vwCl (xw n ad en) H) (hD : xD A n ad) (hS : va_S A H0 H locs) {i j : Nat} (hi : i < n) (hj : j < n) (t0 : Nat) {k ci : Nat} {r : vw_C} {cB : ClassId} {vs : List Value} {f : Nat → Option Nat} (he : en i = .inl (cB, k, .inr (.inr (.inr (.inr f))))) (ht : (xty cA)[t0]? = some (cB, .object r.1)) (hej : en j = .inr (ci, vs)) (hc : vwCl[ci]? = some r) {z : Int} (hz : 0 ≤ z ∧ z < k ∧ z ≤ 2147483647) (hdg : decode cc pc = .ok (.aastore, 1))
    (kk : ∀ (H1 : Heap) (locs1 : List Loc), va_P D vwCl (xw n ad (va_up en i (.inl (cB, k, .inr (.inr (.inr (.inr (va_up f z.toNat (some (ad j))))))))) ) H1 → va_S A H0 H1 locs1 → W p l e R s m args below meth c H1 locs1 cells slots Q (F0 m (pc + 1) ls rest)) : W p l e R s m args below meth c H locs cells slots Q (F0 m pc ls (.ref (ad j) :: .int (xI z) :: .ref (ad i) :: rest)) :=
  va_astq hx hb hK hP (xD_to hD en) hS i t0 j ci (xw_ate hi he) ht (xw_ate hj hej) hc (xI_in hz) hdg (fun H1 locs1 hP1 _ hS1 => kk H1 locs1 (by rw [xI_clamp ⟨hz.1, hz.2.2⟩, xw_set hi] at hP1; exact hP1) hS1)
/-- System.arraycopy between int arrays -/
theorem x_copy (hx : p.tables.exec = Jvm.exec) (hb : c.code = cc) (hml : c.maxLocals = ls.size) {own : String} {index : Nat} (hts : ∀ w ∈ xU, w.before args s = true) (hown : s.vm.findClass own = some m.cls) (hlink : Cond.methodLink own index arraycopyName ∈ xU) (hK : va_K D vwCl (xty cA) s) (hP : va_P D vwCl (xw n ad en) H) (hD : xD A n ad) (hS : va_S A H0 H locs) {i j : Nat} (hi : i < n) (hj : j < n) {n0 n1 : Nat} {f g : Nat → Int32} (he0 : en i = .inl (cA 0, n0, .inl f)) (he1 : en j = .inl (cA 0, n1, .inl g)) {sp dp k : Int} (hz : 0 ≤ sp ∧ 0 ≤ dp ∧ 0 ≤ k ∧ sp + k ≤ n0 ∧ dp + k ≤ n1 ∧ n0 ≤ 1000000 ∧ n1 ≤ 1000000)
    (hframes : 1 ≤ R.frames) (hlocals : (rest.map fun v => v.category).sum + (nativeFrameWords "java/lang/System" "arraycopy" 5 + 11) ≤ R.locals) (hdg : decode cc pc = .ok (.invokestatic index, 3))
    (kk : ∀ (H1 : Heap) (locs1 : List Loc), va_P D vwCl (xw n ad (va_up en j (.inl (cA 0, n1, .inl (va_cpy f g sp.toNat dp.toNat k.toNat))))) H1 → va_S A H0 H1 locs1 → W p l e R s m args below meth c H1 locs1 cells slots Q (F0 m (pc + 3) ls rest)) : W p l e R s m args below meth c H locs cells slots Q (F0 m pc ls (.int (xI k) :: .int (xI dp) :: .ref (ad j) :: .int (xI sp) :: .ref (ad i) :: rest)) := by
  obtain ⟨z1, z2, z3, z4, z5, z6, z7⟩ := hz
  have c1 : (xI sp).toNatClampNeg = sp.toNat := xI_clamp ⟨z1, by omega⟩
  have c2 : (xI dp).toNatClampNeg = dp.toNat := xI_clamp ⟨z2, by omega⟩
  have c3 : (xI k).toNatClampNeg = k.toNat := xI_clamp ⟨z3, by omega⟩
  have nn : ∀ z : Int, 0 ≤ z → z ≤ 1000000 → ¬ xI z < 0 := fun z h h2 q => by
    have h3 : xI z < xI 0 := q
    rw [xI_lt ⟨by omega, by omega⟩ ⟨by omega, by omega⟩] at h3
    omega
  refine va_copyi hx hb hml hown (hts _ hlink) (hts _ u_na_arraycopyName) (hts _ u_st_arraycopyName) (hts _ u_in_RJ10) hK hP (xD_to hD en) hS i j 0 0 (xw_ate hi he0) (xw_ate hj he1) rfl rfl rfl (nn sp z1 (by omega)) (nn dp z2 (by omega)) (nn k z3 (by omega)) (by rw [c1, c3]; omega) (by rw [c2, c3]; omega) (fun _ _ => rfl) hframes hlocals hdg (fun H1 locs1 hP1 _ hS1 => kk H1 locs1 ?_ hS1)
  rw [c1, c2, c3, xw_set hj] at hP1
  exact hP1
theorem x_max (hx : p.tables.exec = Jvm.exec) (hb : c.code = cc) (hml : c.maxLocals = ls.size) {own : String} {index : Nat} (hts : ∀ w ∈ xU, w.before args s = true) (hown : s.vm.findClass own = some m.cls) (hlink : Cond.methodLink own index Lib.Math.max.name ∈ xU) (hframes : 1 ≤ R.frames) (hlocals : (rest.map fun v => v.category).sum + 13 ≤ R.locals) (hc : cells ≤ R.cells) (hs : slots ≤ R.slots) {a b r : Int} (hab : (-2147483648 ≤ a ∧ a ≤ 2147483647) ∧ (-2147483648 ≤ b ∧ b ≤ 2147483647)) (hr : (a < b → r = b) ∧ (¬ a < b → r = a)) (hdg : decode cc pc = .ok (.invokestatic index, 3))
    (kk : W p l e R s m args below meth c H locs cells slots Q (F0 m (pc + 3) ls (.int (xI r) :: rest))) : W p l e R s m args below meth c H locs cells slots Q (F0 m pc ls (.int (xI b) :: .int (xI a) :: rest)) := by
  refine va_mmax hx hb hml hown (hts _ hlink) (hts _ u_st_yJ9_max_7cf53) (hts _ u_in_RJ9) (hts _ u_co_yJ9_max_7cf53) hframes hlocals hc hs hdg ?_
  by_cases h : a < b
  · rw [if_pos ((xI_lt hab.1 hab.2).mpr h), ← hr.1 h]; exact kk
  · rw [if_neg (fun q => h ((xI_lt hab.1 hab.2).mp q)), ← hr.2 h]; exact kk
theorem x_min (hx : p.tables.exec = Jvm.exec) (hb : c.code = cc) (hml : c.maxLocals = ls.size) {own : String} {index : Nat} (hts : ∀ w ∈ xU, w.before args s = true) (hown : s.vm.findClass own = some m.cls) (hlink : Cond.methodLink own index Lib.Math.min.name ∈ xU) (hframes : 1 ≤ R.frames) (hlocals : (rest.map fun v => v.category).sum + 13 ≤ R.locals) (hc : cells ≤ R.cells) (hs : slots ≤ R.slots) {a b r : Int} (hab : (-2147483648 ≤ a ∧ a ≤ 2147483647) ∧ (-2147483648 ≤ b ∧ b ≤ 2147483647)) (hr : (a ≤ b → r = a) ∧ (¬ a ≤ b → r = b)) (hdg : decode cc pc = .ok (.invokestatic index, 3))
    (kk : W p l e R s m args below meth c H locs cells slots Q (F0 m (pc + 3) ls (.int (xI r) :: rest))) : W p l e R s m args below meth c H locs cells slots Q (F0 m pc ls (.int (xI b) :: .int (xI a) :: rest)) := by
  refine va_mmin hx hb hml hown (hts _ hlink) (hts _ u_st_yJ9_min_7cf53) (hts _ u_in_RJ9) (hts _ u_co_yJ9_min_7cf53) hframes hlocals hc hs hdg ?_
  by_cases h : a ≤ b
  · rw [if_neg (fun q => by have := (xI_lt hab.2 hab.1).mp q; omega), ← hr.1 h]; exact kk
  · rw [if_pos ((xI_lt hab.2 hab.1).mpr (by omega)), ← hr.2 h]; exact kk
theorem x_abs (hx : p.tables.exec = Jvm.exec) (hb : c.code = cc) (hml : c.maxLocals = ls.size) {own : String} {index : Nat} (hts : ∀ w ∈ xU, w.before args s = true) (hown : s.vm.findClass own = some m.cls) (hlink : Cond.methodLink own index Lib.Math.abs.name ∈ xU) (hframes : 1 ≤ R.frames) (hlocals : (rest.map fun v => v.category).sum + 13 ≤ R.locals) (hc : cells ≤ R.cells) (hs : slots ≤ R.slots) {a r : Int} (ha : -2147483648 ≤ a ∧ a ≤ 2147483647) (hr : (0 ≤ a → r = a) ∧ (¬ 0 ≤ a → r = -a)) (hdg : decode cc pc = .ok (.invokestatic index, 3))
    (kk : W p l e R s m args below meth c H locs cells slots Q (F0 m (pc + 3) ls (.int (xI r) :: rest))) : W p l e R s m args below meth c H locs cells slots Q (F0 m pc ls (.int (xI a) :: rest)) := by
  refine va_mabs hx hb hml hown (hts _ hlink) (hts _ u_st_yJ9_abs_0f7a4) (hts _ u_in_RJ9) (hts _ u_co_yJ9_abs_0f7a4) hframes hlocals hc hs hdg ?_
  have e0 : (0 : Int32) = xI 0 := rfl
  by_cases h : 0 ≤ a
  · rw [if_pos (by rw [e0, xI_le ⟨by omega, by omega⟩ ha]; exact h), ← hr.1 h]; exact kk
  · rw [if_neg (fun q => h (by rw [e0, xI_le ⟨by omega, by omega⟩ ha] at q; exact q)), e0, xI_sub, Int.zero_sub, ← hr.2 h]; exact kk
end XR2
end
section
/-! calls and ends -/
theorem xU_goodIn {own C : String} {index : Nat} {y : MethodName} {ws : List Cond} (hw : ∀ w ∈ ws, w ∈ xU) : GoodIn xU ws := fun w h => ⟨hw w h, good_of_word (xU_good w (hw w h))⟩
/-- a callee: an instance method; a static one -/
def xCal (C : String) (y : MethodName) (bytes : ByteArray) (maxL : Nat) (ret : Option FieldType) (nn : Nat) : Prop := Cond.instanceMethod y ∈ xU ∧ Cond.selects C y y ∈ xU ∧ Cond.initialized y.cls ∈ xU ∧ Cond.code y bytes maxL ret ∈ xU ∧ (y.cls ≠ "java/lang/invoke/MethodHandle" ∧ y.cls ≠ "java/lang/invoke/VarHandle" ∧ (parseMethodDescriptor y.desc).map (fun d => d.parameters.length) = some nn)
def xCalS (y : MethodName) (bytes : ByteArray) (maxL : Nat) (ret : Option FieldType) (nn : Nat) : Prop := Cond.static y ∈ xU ∧ Cond.initialized y.cls ∈ xU ∧ Cond.code y bytes maxL ret ∈ xU ∧ (y.cls ≠ "java/lang/invoke/MethodHandle" ∧ y.cls ≠ "java/lang/invoke/VarHandle" ∧ (parseMethodDescriptor y.desc).map (fun d => d.parameters.length) = some nn)
abbrev xrm (fr lo : Nat) : Room := { frames := fr, cells := 0, slots := 0, locals := lo }
section XC
variable {p : Program} {l : Launch} {e : Env} {R : Room} {s : State} {m : MethodId} {args : Array Value} {below : List Frame} {meth : Method} {c : Code} {H : Heap} {locs : List Loc} {cells slots : Nat} {Q : State → Prop}
variable {cc bytes : ByteArray} {pc : Nat} {ls : Array Slot} {rest st0 As : List Value} {D : va_G} {cA : Nat → ClassId} {n : Nat} {ad : Nat → Nat} {en : Nat → va_E} {A : Nat → Prop} {H0 : Heap} {own C : String} {y : MethodName} {maxL nL nn index fr lo : Nat} {ret : Option FieldType}
theorem x_cb (hts : ∀ w ∈ xU, w.before args s = true) (hco : Cond.code y bytes maxL ret ∈ xU) (hini : Cond.initialized y.cls ∈ xU) (hl : Cond.methodLink own index y ∈ xU) (hd : y.cls ≠ "java/lang/invoke/MethodHandle" ∧ y.cls ≠ "java/lang/invoke/VarHandle" ∧ (parseMethodDescriptor y.desc).map (fun d => d.parameters.length) = some nn) (hR : fr + 1 ≤ R.frames ∧ 8 + (maxL + 11) + lo ≤ R.locals) : CallB R s args own index y bytes maxL ret (Cond.code y bytes maxL ret :: xU) (xrm fr lo) 0 0 nn :=
  callB_of nn hts (xU_goodIn (own := own) (C := own) (index := 0) (y := y) (fun w h => by rcases List.mem_cons.mp h with rfl | h; exact hco; exact h)) rfl rfl rfl (hts _ hini) (hts _ hl) hd hR
theorem x_cw (hts : ∀ w ∈ xU, w.before args s = true) (hcal : xCal C y bytes maxL ret nn) (hl : Cond.methodLink own index y ∈ xU) (hR : fr + 1 ≤ R.frames ∧ 8 + (maxL + 11) + lo ≤ R.locals) : CallW R s args own C index y bytes maxL ret (Cond.code y bytes maxL ret :: xU) (xrm fr lo) 0 0 nn :=
  ⟨x_cb hts hcal.2.2.2.1 hcal.2.2.1 hl hcal.2.2.2.2 hR, hts _ hcal.1, hts _ hcal.2.1⟩
theorem x_cs (hts : ∀ w ∈ xU, w.before args s = true) (hcal : xCalS y bytes maxL ret nn) (hl : Cond.methodLink own index y ∈ xU) (hR : fr + 1 ≤ R.frames ∧ 8 + (maxL + 11) + lo ≤ R.locals) : CallB R s args own index y bytes maxL ret (Cond.code y bytes maxL ret :: xU) (xrm fr lo) 0 0 nn ∧ (Cond.static y).before args s = true :=
  ⟨x_cb hts hcal.2.2.1 hcal.2.1 hl hcal.2.2.2 hR, hts _ hcal.1⟩
theorem xv_i (F : CallFix p m c cc nL s args xU own) (hsz : ls.size = nL) {i : Nat} {r : Int32} (hM : Met l y (Cond.code y bytes maxL ret :: xU) (xrm fr lo) (va_Pc (.ref (ad i) :: As) (xB D cA n ad en)) (vp_Si (fun z => z = r)) 0 0 (fun _ => False)) (hcal : xCal C y bytes maxL ret nn) (hl : Cond.methodLink own index y ∈ xU) (hK : va_K D vwCl (xty cA) s) (hN : xN s) (hP : va_P D vwCl (xw n ad en) H) {ci : Nat} (hi : i < n) {fs : List Value} (he : en i = .inr (ci, fs)) {q : vw_C} (hc : vwCl[ci]? = some q) (hq : q.1 = C) (hnn : As.length = nn) (hst : st0 = As.reverse ++ .ref (ad i) :: rest) (hroom : (rest.map fun v => v.category).sum ≤ 8) (hR : fr + 1 ≤ R.frames ∧ 8 + (maxL + 11) + lo ≤ R.locals) (hf : cells ≤ R.cells ∧ slots ≤ R.slots) (hdg : decode cc pc = .ok (.invokevirtual index, 3))
    (kk : W p l e R s m args below meth c H locs cells slots Q (F0 m (pc + 3) ls (.int r :: rest))) : W p l e R s m args below meth c H locs cells slots Q (F0 m pc ls st0) := by
  subst hst
  subst hq
  refine vp_callSi (W.runV (As := As) (rest := rest) F hM (x_cw F.2.2.2.2 hcal hl hR) ⟨xB_blind, va_recv hK hP hc (xw_ate hi he), fun U hU hW => ⟨rfl, xB_of hK hN hP hU hW⟩⟩ rfl hnn hsz rfl (lv_room hroom) hdg ⟨hf.1, hf.2⟩) (fun z hz => ?_)
  subst hz
  exact kk
theorem xs_i (F : CallFix p m c cc nL s args xU own) (hsz : ls.size = nL) {r : Int32} (hM : Met l y (Cond.code y bytes maxL ret :: xU) (xrm fr lo) (va_Pc As (xB D cA n ad en)) (vp_Si (fun z => z = r)) 0 0 (fun _ => False)) (hcal : xCalS y bytes maxL ret nn) (hl : Cond.methodLink own index y ∈ xU) (hnn : As.length = nn) (hst : st0 = As.reverse ++ rest) (hroom : (rest.map fun v => v.category).sum ≤ 8) (hR : fr + 1 ≤ R.frames ∧ 8 + (maxL + 11) + lo ≤ R.locals) (hf : cells ≤ R.cells ∧ slots ≤ R.slots) (hdg : decode cc pc = .ok (.invokestatic index, 3)) (hK : va_K D vwCl (xty cA) s) (hN : xN s) (hP : va_P D vwCl (xw n ad en) H)
    (kk : W p l e R s m args below meth c H locs cells slots Q (F0 m (pc + 3) ls (.int r :: rest))) : W p l e R s m args below meth c H locs cells slots Q (F0 m pc ls st0) := by
  subst hst
  refine vp_callSi (W.runS (As := As) (rest := rest) F hM (x_cs F.2.2.2.2 hcal hl hR) ⟨xB_blind, fun U hU hW => ⟨rfl, xB_of hK hN hP hU hW⟩⟩ rfl hnn hsz rfl (lv_room hroom) hdg ⟨hf.1, hf.2⟩) (fun z hz => ?_)
  subst hz
  exact kk
theorem xt_i (F : CallFix p m c cc nL s args xU own) (hsz : ls.size = nL) {r : Int32} (hM : Met l y (Cond.code y bytes maxL ret :: xU) (xrm fr lo) (va_Pc As (fun _ => True)) (vp_Si (fun z => z = r)) 0 0 (fun _ => False)) (hcal : xCalS y bytes maxL ret nn) (hl : Cond.methodLink own index y ∈ xU) (hnn : As.length = nn) (hst : st0 = As.reverse ++ rest) (hroom : (rest.map fun v => v.category).sum ≤ 8) (hR : fr + 1 ≤ R.frames ∧ 8 + (maxL + 11) + lo ≤ R.locals) (hf : cells ≤ R.cells ∧ slots ≤ R.slots) (hdg : decode cc pc = .ok (.invokestatic index, 3)) 
    (kk : W p l e R s m args below meth c H locs cells slots Q (F0 m (pc + 3) ls (.int r :: rest))) : W p l e R s m args below meth c H locs cells slots Q (F0 m pc ls st0) := by
  subst hst
  refine vp_callSi (W.runS (As := As) (rest := rest) F hM (x_cs F.2.2.2.2 hcal hl hR) ⟨xT_blind, fun U hU hW => ⟨rfl, trivial⟩⟩ rfl hnn hsz rfl (lv_room hroom) hdg ⟨hf.1, hf.2⟩) (fun z hz => ?_)
  subst hz
  exact kk
theorem xv_l (F : CallFix p m c cc nL s args xU own) (hsz : ls.size = nL) {i : Nat} {r : Int64} (hM : Met l y (Cond.code y bytes maxL ret :: xU) (xrm fr lo) (va_Pc (.ref (ad i) :: As) (xB D cA n ad en)) (vp_Sl (fun z => z = r)) 0 0 (fun _ => False)) (hcal : xCal C y bytes maxL ret nn) (hl : Cond.methodLink own index y ∈ xU) (hK : va_K D vwCl (xty cA) s) (hN : xN s) (hP : va_P D vwCl (xw n ad en) H) {ci : Nat} (hi : i < n) {fs : List Value} (he : en i = .inr (ci, fs)) {q : vw_C} (hc : vwCl[ci]? = some q) (hq : q.1 = C) (hnn : As.length = nn) (hst : st0 = As.reverse ++ .ref (ad i) :: rest) (hroom : (rest.map fun v => v.category).sum ≤ 8) (hR : fr + 1 ≤ R.frames ∧ 8 + (maxL + 11) + lo ≤ R.locals) (hf : cells ≤ R.cells ∧ slots ≤ R.slots) (hdg : decode cc pc = .ok (.invokevirtual index, 3))
    (kk : W p l e R s m args below meth c H locs cells slots Q (F0 m (pc + 3) ls (.long r :: rest))) : W p l e R s m args below meth c H locs cells slots Q (F0 m pc ls st0) := by
  subst hst
  subst hq
  refine vp_callSl (W.runV (As := As) (rest := rest) F hM (x_cw F.2.2.2.2 hcal hl hR) ⟨xB_blind, va_recv hK hP hc (xw_ate hi he), fun U hU hW => ⟨rfl, xB_of hK hN hP hU hW⟩⟩ rfl hnn hsz rfl (lv_room hroom) hdg ⟨hf.1, hf.2⟩) (fun z hz => ?_)
  subst hz
  exact kk
theorem xs_l (F : CallFix p m c cc nL s args xU own) (hsz : ls.size = nL) {r : Int64} (hM : Met l y (Cond.code y bytes maxL ret :: xU) (xrm fr lo) (va_Pc As (xB D cA n ad en)) (vp_Sl (fun z => z = r)) 0 0 (fun _ => False)) (hcal : xCalS y bytes maxL ret nn) (hl : Cond.methodLink own index y ∈ xU) (hnn : As.length = nn) (hst : st0 = As.reverse ++ rest) (hroom : (rest.map fun v => v.category).sum ≤ 8) (hR : fr + 1 ≤ R.frames ∧ 8 + (maxL + 11) + lo ≤ R.locals) (hf : cells ≤ R.cells ∧ slots ≤ R.slots) (hdg : decode cc pc = .ok (.invokestatic index, 3)) (hK : va_K D vwCl (xty cA) s) (hN : xN s) (hP : va_P D vwCl (xw n ad en) H)
    (kk : W p l e R s m args below meth c H locs cells slots Q (F0 m (pc + 3) ls (.long r :: rest))) : W p l e R s m args below meth c H locs cells slots Q (F0 m pc ls st0) := by
  subst hst
  refine vp_callSl (W.runS (As := As) (rest := rest) F hM (x_cs F.2.2.2.2 hcal hl hR) ⟨xB_blind, fun U hU hW => ⟨rfl, xB_of hK hN hP hU hW⟩⟩ rfl hnn hsz rfl (lv_room hroom) hdg ⟨hf.1, hf.2⟩) (fun z hz => ?_)
  subst hz
  exact kk
theorem xt_l (F : CallFix p m c cc nL s args xU own) (hsz : ls.size = nL) {r : Int64} (hM : Met l y (Cond.code y bytes maxL ret :: xU) (xrm fr lo) (va_Pc As (fun _ => True)) (vp_Sl (fun z => z = r)) 0 0 (fun _ => False)) (hcal : xCalS y bytes maxL ret nn) (hl : Cond.methodLink own index y ∈ xU) (hnn : As.length = nn) (hst : st0 = As.reverse ++ rest) (hroom : (rest.map fun v => v.category).sum ≤ 8) (hR : fr + 1 ≤ R.frames ∧ 8 + (maxL + 11) + lo ≤ R.locals) (hf : cells ≤ R.cells ∧ slots ≤ R.slots) (hdg : decode cc pc = .ok (.invokestatic index, 3)) 
    (kk : W p l e R s m args below meth c H locs cells slots Q (F0 m (pc + 3) ls (.long r :: rest))) : W p l e R s m args below meth c H locs cells slots Q (F0 m pc ls st0) := by
  subst hst
  refine vp_callSl (W.runS (As := As) (rest := rest) F hM (x_cs F.2.2.2.2 hcal hl hR) ⟨xT_blind, fun U hU hW => ⟨rfl, trivial⟩⟩ rfl hnn hsz rfl (lv_room hroom) hdg ⟨hf.1, hf.2⟩) (fun z hz => ?_)
  subst hz
  exact kk
theorem xv_q (F : CallFix p m c cc nL s args xU own) (hsz : ls.size = nL) {i : Nat} {r : Option Nat} (hM : Met l y (Cond.code y bytes maxL ret :: xU) (xrm fr lo) (va_Pc (.ref (ad i) :: As) (xB D cA n ad en)) (va_Sq (fun z => z = r)) 0 0 (fun _ => False)) (hcal : xCal C y bytes maxL ret nn) (hl : Cond.methodLink own index y ∈ xU) (hK : va_K D vwCl (xty cA) s) (hN : xN s) (hP : va_P D vwCl (xw n ad en) H) {ci : Nat} (hi : i < n) {fs : List Value} (he : en i = .inr (ci, fs)) {q : vw_C} (hc : vwCl[ci]? = some q) (hq : q.1 = C) (hnn : As.length = nn) (hst : st0 = As.reverse ++ .ref (ad i) :: rest) (hroom : (rest.map fun v => v.category).sum ≤ 8) (hR : fr + 1 ≤ R.frames ∧ 8 + (maxL + 11) + lo ≤ R.locals) (hf : cells ≤ R.cells ∧ slots ≤ R.slots) (hdg : decode cc pc = .ok (.invokevirtual index, 3))
    (kk : W p l e R s m args below meth c H locs cells slots Q (F0 m (pc + 3) ls (va_rf r :: rest))) : W p l e R s m args below meth c H locs cells slots Q (F0 m pc ls st0) := by
  subst hst
  subst hq
  refine va_csq (W.runV (As := As) (rest := rest) F hM (x_cw F.2.2.2.2 hcal hl hR) ⟨xB_blind, va_recv hK hP hc (xw_ate hi he), fun U hU hW => ⟨rfl, xB_of hK hN hP hU hW⟩⟩ rfl hnn hsz rfl (lv_room hroom) hdg ⟨hf.1, hf.2⟩) (fun z hz => ?_)
  subst hz
  exact kk
theorem xm_i (F : CallFix p m c cc nL s args xU own) (hsz : ls.size = nL) {i : Nat} {post : Int32 → (Nat → va_E) → Prop} (hM : Met l y (Cond.code y bytes maxL ret :: xU) (xrm fr lo) (va_Pc (.ref (ad i) :: As) (xM D cA n ad en H.size)) (va_Qi post (xE D n ad) (xA n ad H.size)) 0 0 (xA n ad H.size)) (hcal : xCal C y bytes maxL ret nn) (hl : Cond.methodLink own index y ∈ xU) (hK : va_K D vwCl (xty cA) s) (hN : xN s) (hP : va_P D vwCl (xw n ad en) H) {ci : Nat} (hi : i < n) {fs : List Value} (he : en i = .inr (ci, fs)) {q : vw_C} (hc : vwCl[ci]? = some q) (hq : q.1 = C) (hnn : As.length = nn) (hst : st0 = As.reverse ++ .ref (ad i) :: rest) (hroom : (rest.map fun v => v.category).sum ≤ 8) (hR : fr + 1 ≤ R.frames ∧ 8 + (maxL + 11) + lo ≤ R.locals) (hf : cells ≤ R.cells ∧ slots ≤ R.slots) (hdg : decode cc pc = .ok (.invokevirtual index, 3)) (hD : xD A n ad) (hS : va_S A H0 H locs) (hA : ∀ q, H0.size ≤ q → A q)
    (kk : ∀ (r : Int32) (u : Nat → va_E) (H1 : Heap) (locs1 : List Loc), post r u → va_P D vwCl (xw n ad u) H1 → va_S A H0 H1 locs1 → W p l e R s m args below meth c H1 locs1 cells slots Q (F0 m (pc + 3) ls (.int r :: rest))) : W p l e R s m args below meth c H locs cells slots Q (F0 m pc ls st0) := by
  subst hst
  subst hq
  have hF : ∀ q, xA n ad H.size q → A q := fun q h => by
    rcases h with ⟨j, hj, rfl⟩ | h
    · exact hD.2 j hj
    · exact hA q (Nat.le_trans hS.1 h)
  refine va_calli (va_runV (As := As) (rest := rest) F hM (x_cw F.2.2.2.2 hcal hl hR) ⟨xM_blind, va_recv hK hP hc (xw_ate hi he), fun U hU hW => ⟨rfl, xB_of hK hN hP hU hW, by rw [hU], xD_w hD (fun _ _ => trivial)⟩⟩ rfl hnn hsz rfl (lv_room hroom) hdg ⟨hf.1, hf.2⟩) hS (fun q _ h => hF q h) hF (fun r u t H1 locs1 ht _ hp hB _ _ hS1 => kk r u H1 locs1 hp (by rw [← ht]; exact hB) hS1)
theorem xm_l (F : CallFix p m c cc nL s args xU own) (hsz : ls.size = nL) {i : Nat} {post : Int64 → (Nat → va_E) → Prop} (hM : Met l y (Cond.code y bytes maxL ret :: xU) (xrm fr lo) (va_Pc (.ref (ad i) :: As) (xM D cA n ad en H.size)) (va_Ql post (xE D n ad) (xA n ad H.size)) 0 0 (xA n ad H.size)) (hcal : xCal C y bytes maxL ret nn) (hl : Cond.methodLink own index y ∈ xU) (hK : va_K D vwCl (xty cA) s) (hN : xN s) (hP : va_P D vwCl (xw n ad en) H) {ci : Nat} (hi : i < n) {fs : List Value} (he : en i = .inr (ci, fs)) {q : vw_C} (hc : vwCl[ci]? = some q) (hq : q.1 = C) (hnn : As.length = nn) (hst : st0 = As.reverse ++ .ref (ad i) :: rest) (hroom : (rest.map fun v => v.category).sum ≤ 8) (hR : fr + 1 ≤ R.frames ∧ 8 + (maxL + 11) + lo ≤ R.locals) (hf : cells ≤ R.cells ∧ slots ≤ R.slots) (hdg : decode cc pc = .ok (.invokevirtual index, 3)) (hD : xD A n ad) (hS : va_S A H0 H locs) (hA : ∀ q, H0.size ≤ q → A q)
    (kk : ∀ (r : Int64) (u : Nat → va_E) (H1 : Heap) (locs1 : List Loc), post r u → va_P D vwCl (xw n ad u) H1 → va_S A H0 H1 locs1 → W p l e R s m args below meth c H1 locs1 cells slots Q (F0 m (pc + 3) ls (.long r :: rest))) : W p l e R s m args below meth c H locs cells slots Q (F0 m pc ls st0) := by
  subst hst
  subst hq
  have hF : ∀ q, xA n ad H.size q → A q := fun q h => by
    rcases h with ⟨j, hj, rfl⟩ | h
    · exact hD.2 j hj
    · exact hA q (Nat.le_trans hS.1 h)
  refine va_calll (va_runV (As := As) (rest := rest) F hM (x_cw F.2.2.2.2 hcal hl hR) ⟨xM_blind, va_recv hK hP hc (xw_ate hi he), fun U hU hW => ⟨rfl, xB_of hK hN hP hU hW, by rw [hU], xD_w hD (fun _ _ => trivial)⟩⟩ rfl hnn hsz rfl (lv_room hroom) hdg ⟨hf.1, hf.2⟩) hS (fun q _ h => hF q h) hF (fun r u t H1 locs1 ht _ hp hB _ _ hS1 => kk r u H1 locs1 hp (by rw [← ht]; exact hB) hS1)
theorem xm_q (F : CallFix p m c cc nL s args xU own) (hsz : ls.size = nL) {i : Nat} {post : Option Nat → (Nat → va_E) → Prop} (hM : Met l y (Cond.code y bytes maxL ret :: xU) (xrm fr lo) (va_Pc (.ref (ad i) :: As) (xM D cA n ad en H.size)) (va_Qq post (xE D n ad) (xA n ad H.size)) 0 0 (xA n ad H.size)) (hcal : xCal C y bytes maxL ret nn) (hl : Cond.methodLink own index y ∈ xU) (hK : va_K D vwCl (xty cA) s) (hN : xN s) (hP : va_P D vwCl (xw n ad en) H) {ci : Nat} (hi : i < n) {fs : List Value} (he : en i = .inr (ci, fs)) {q : vw_C} (hc : vwCl[ci]? = some q) (hq : q.1 = C) (hnn : As.length = nn) (hst : st0 = As.reverse ++ .ref (ad i) :: rest) (hroom : (rest.map fun v => v.category).sum ≤ 8) (hR : fr + 1 ≤ R.frames ∧ 8 + (maxL + 11) + lo ≤ R.locals) (hf : cells ≤ R.cells ∧ slots ≤ R.slots) (hdg : decode cc pc = .ok (.invokevirtual index, 3)) (hD : xD A n ad) (hS : va_S A H0 H locs) (hA : ∀ q, H0.size ≤ q → A q)
    (kk : ∀ (r : Option Nat) (u : Nat → va_E) (H1 : Heap) (locs1 : List Loc), post r u → va_P D vwCl (xw n ad u) H1 → va_S A H0 H1 locs1 → W p l e R s m args below meth c H1 locs1 cells slots Q (F0 m (pc + 3) ls (va_rf r :: rest))) : W p l e R s m args below meth c H locs cells slots Q (F0 m pc ls st0) := by
  subst hst
  subst hq
  have hF : ∀ q, xA n ad H.size q → A q := fun q h => by
    rcases h with ⟨j, hj, rfl⟩ | h
    · exact hD.2 j hj
    · exact hA q (Nat.le_trans hS.1 h)
  refine va_callq (va_runV (As := As) (rest := rest) F hM (x_cw F.2.2.2.2 hcal hl hR) ⟨xM_blind, va_recv hK hP hc (xw_ate hi he), fun U hU hW => ⟨rfl, xB_of hK hN hP hU hW, by rw [hU], xD_w hD (fun _ _ => trivial)⟩⟩ rfl hnn hsz rfl (lv_room hroom) hdg ⟨hf.1, hf.2⟩) hS (fun q _ h => hF q h) hF (fun r u t H1 locs1 ht _ hp hB _ _ hS1 => kk r u H1 locs1 hp (by rw [← ht]; exact hB) hS1)
theorem xm_v (F : CallFix p m c cc nL s args xU own) (hsz : ls.size = nL) {i : Nat} {post : (Nat → va_E) → Prop} (hM : Met l y (Cond.code y bytes maxL ret :: xU) (xrm fr lo) (va_Pc (.ref (ad i) :: As) (xM D cA n ad en H.size)) (va_Qv post (xE D n ad) (xA n ad H.size)) 0 0 (xA n ad H.size)) (hcal : xCal C y bytes maxL ret nn) (hl : Cond.methodLink own index y ∈ xU) (hK : va_K D vwCl (xty cA) s) (hN : xN s) (hP : va_P D vwCl (xw n ad en) H) {ci : Nat} (hi : i < n) {fs : List Value} (he : en i = .inr (ci, fs)) {q : vw_C} (hc : vwCl[ci]? = some q) (hq : q.1 = C) (hnn : As.length = nn) (hst : st0 = As.reverse ++ .ref (ad i) :: rest) (hroom : (rest.map fun v => v.category).sum ≤ 8) (hR : fr + 1 ≤ R.frames ∧ 8 + (maxL + 11) + lo ≤ R.locals) (hf : cells ≤ R.cells ∧ slots ≤ R.slots) (hdg : decode cc pc = .ok (.invokevirtual index, 3)) (hD : xD A n ad) (hS : va_S A H0 H locs) (hA : ∀ q, H0.size ≤ q → A q)
    (kk : ∀ (u : Nat → va_E) (H1 : Heap) (locs1 : List Loc), post u → va_P D vwCl (xw n ad u) H1 → va_S A H0 H1 locs1 → W p l e R s m args below meth c H1 locs1 cells slots Q (F0 m (pc + 3) ls (rest))) : W p l e R s m args below meth c H locs cells slots Q (F0 m pc ls st0) := by
  subst hst
  subst hq
  have hF : ∀ q, xA n ad H.size q → A q := fun q h => by
    rcases h with ⟨j, hj, rfl⟩ | h
    · exact hD.2 j hj
    · exact hA q (Nat.le_trans hS.1 h)
  refine va_callv (va_runV (As := As) (rest := rest) F hM (x_cw F.2.2.2.2 hcal hl hR) ⟨xM_blind, va_recv hK hP hc (xw_ate hi he), fun U hU hW => ⟨rfl, xB_of hK hN hP hU hW, by rw [hU], xD_w hD (fun _ _ => trivial)⟩⟩ rfl hnn hsz rfl (lv_room hroom) hdg ⟨hf.1, hf.2⟩) hS (fun q _ h => hF q h) hF (fun u t H1 locs1 ht _ hp hB _ _ hS1 => kk u H1 locs1 hp (by rw [← ht]; exact hB) hS1)
end XC
section XE
variable {p : Program} {l : Launch} {e : Env} {R : Room} {s : State} {m : MethodId} {args : Array Value} {below : List Frame} {meth : Method} {c : Code} {H : Heap} {locs : List Loc} {cells slots : Nat} {Q : State → Prop}
variable {cc bytes : ByteArray} {pc : Nat} {ls : Array Slot} {rest st0 As : List Value} {D : va_G} {cA : Nat → ClassId} {n : Nat} {ad : Nat → Nat} {en : Nat → va_E} {A : Nat → Prop} {H0 : Heap} {own C : String} {y : MethodName} {maxL nL nn index fr lo : Nat} {ret : Option FieldType}
/-! ends of methods that only read -/
theorem xr_i (hx : p.tables.exec = Jvm.exec) (hb : c.code = cc) (hr : meth.sig.returnType = some .int) (hlocks : meth.locks = false) {v w : Int32} (h : v = w) (hdg : decode cc pc = .ok (.ireturn, 1)) : W p l e R s m args below meth c s.heap [] 0 0 (MQ below (vp_Si (fun z => z = w)) args s 0 0 (fun _ => False)) (F0 m pc ls [.int v]) :=
  W.iret hx hb hr (fun t ht _ => ⟨v, rfl, h, ht⟩) (fun _ q => absurd q List.not_mem_nil) hdg hlocks
theorem xr_z (hx : p.tables.exec = Jvm.exec) (hb : c.code = cc) (hr : meth.sig.returnType = some .boolean) (hlocks : meth.locks = false) {v : Int32} {p1 : Prop} (h : v = xb p1) (hdg : decode cc pc = .ok (.ireturn, 1)) : W p l e R s m args below meth c s.heap [] 0 0 (MQ below (vp_Si (fun z => z = xb p1)) args s 0 0 (fun _ => False)) (F0 m pc ls [.int v]) :=
  W.zret hx hb hr (by rw [h]; exact xb_nar p1) (fun t ht _ => ⟨v, rfl, h, ht⟩) (fun _ q => absurd q List.not_mem_nil) hdg hlocks
theorem xr_l (hx : p.tables.exec = Jvm.exec) (hb : c.code = cc) (hr : meth.sig.returnType = some .long) (hlocks : meth.locks = false) {v w : Int64} (h : v = w) (hdg : decode cc pc = .ok (.lreturn, 1)) : W p l e R s m args below meth c s.heap [] 0 0 (MQ below (vp_Sl (fun z => z = w)) args s 0 0 (fun _ => False)) (F0 m pc ls [.long v]) :=
  W.lret hx hb hr (fun t ht _ => ⟨v, rfl, h, ht⟩) (fun _ q => absurd q List.not_mem_nil) hdg hlocks
theorem xr_q (hx : p.tables.exec = Jvm.exec) (hb : c.code = cc) {nm : String} (hr : meth.sig.returnType = some (.object nm)) (hlocks : meth.locks = false) {v : Value} {r : Option Nat} (h : v = va_rf r) (hdg : decode cc pc = .ok (.areturn, 1)) : W p l e R s m args below meth c s.heap [] 0 0 (MQ below (va_Sq (fun z => z = r)) args s 0 0 (fun _ => False)) (F0 m pc ls [v]) :=
  W.aret hx hb hr (Or.inl ⟨_, rfl⟩) (by rw [h]; exact va_rf_or r) (fun t ht _ => ⟨r, by rw [h], rfl, ht⟩) (fun _ q => absurd q List.not_mem_nil) hdg hlocks
/-! ends of methods that change cells -/
theorem xe_i (hx : p.tables.exec = Jvm.exec) (hb : c.code = cc) (hr : meth.sig.returnType = some .int) (hlocks : meth.locks = false) {sz : Nat} {post : Int32 → (Nat → va_E) → Prop} (hP : va_P D vwCl (xw n ad en) H) (hS : va_S (xA n ad sz) s.heap H locs) {v : Int32} (hp : post v en) (hdg : decode cc pc = .ok (.ireturn, 1)) : W p l e R s m args below meth c H locs 0 0 (MQ below (va_Qi post (xE D n ad) (xA n ad sz)) args s 0 0 (xA n ad sz)) (F0 m pc ls [.int v]) :=
  W.iret hx hb hr (fun t ht _ => ⟨⟨v, en, rfl, hp, by show va_P D vwCl (xw n ad en) t.heap; rw [ht]; exact hP⟩, hS.F ht⟩) hS.2.2 hdg hlocks
theorem xe_l (hx : p.tables.exec = Jvm.exec) (hb : c.code = cc) (hr : meth.sig.returnType = some .long) (hlocks : meth.locks = false) {sz : Nat} {post : Int64 → (Nat → va_E) → Prop} (hP : va_P D vwCl (xw n ad en) H) (hS : va_S (xA n ad sz) s.heap H locs) {v : Int64} (hp : post v en) (hdg : decode cc pc = .ok (.lreturn, 1)) : W p l e R s m args below meth c H locs 0 0 (MQ below (va_Ql post (xE D n ad) (xA n ad sz)) args s 0 0 (xA n ad sz)) (F0 m pc ls [.long v]) :=
  W.lret hx hb hr (fun t ht _ => ⟨⟨v, en, rfl, hp, by show va_P D vwCl (xw n ad en) t.heap; rw [ht]; exact hP⟩, hS.F ht⟩) hS.2.2 hdg hlocks
theorem xe_v (hx : p.tables.exec = Jvm.exec) (hb : c.code = cc) (hr : meth.sig.returnType = none) (hlocks : meth.locks = false) {sz : Nat} {post : (Nat → va_E) → Prop} (hP : va_P D vwCl (xw n ad en) H) (hS : va_S (xA n ad sz) s.heap H locs) (hp : post en) (hdg : decode cc pc = .ok (.return_, 1)) : W p l e R s m args below meth c H locs 0 0 (MQ below (va_Qv post (xE D n ad) (xA n ad sz)) args s 0 0 (xA n ad sz)) (F0 m pc ls []) :=
  W.vret hx hb hr (fun t ht _ => ⟨⟨en, rfl, hp, by show va_P D vwCl (xw n ad en) t.heap; rw [ht]; exact hP⟩, hS.F ht⟩) hS.2.2 hdg hlocks
theorem xe_q (hx : p.tables.exec = Jvm.exec) (hb : c.code = cc) {nm : String} (hr : meth.sig.returnType = some (.object nm)) (hlocks : meth.locks = false) {sz : Nat} {post : Option Nat → (Nat → va_E) → Prop} (hP : va_P D vwCl (xw n ad en) H) (hS : va_S (xA n ad sz) s.heap H locs) {v : Value} {r : Option Nat} (h : v = va_rf r) (hp : post r en) (hdg : decode cc pc = .ok (.areturn, 1)) : W p l e R s m args below meth c H locs 0 0 (MQ below (va_Qq post (xE D n ad) (xA n ad sz)) args s 0 0 (xA n ad sz)) (F0 m pc ls [v]) :=
  W.aret hx hb hr (Or.inl ⟨_, rfl⟩) (by rw [h]; exact va_rf_or r) (fun t ht _ => ⟨⟨r, en, by rw [h], hp, by show va_P D vwCl (xw n ad en) t.heap; rw [ht]; exact hP⟩, hS.F ht⟩) hS.2.2 hdg hlocks
end XE
/-! beginnings -/
theorem xmet {l : Launch} {y : MethodName} {cc : ByteArray} {maxL : Nat} {ret : Option FieldType} {rm : Room} {av : List Value} {B : State → Prop} {Qc : Array Value → State → Outcome → State → Prop} {mc ms : Nat} {free : Addr → Prop} (hy : plainName y.cls = true) (hn : (lg_sl av).length ≤ maxL)
    (body : ∀ (p : Program) (e : Env) (s : State) (m : MethodId) (args : Array Value) (below : List Frame) (meth : Method) (c : Code) (ls : Array Slot), p.tables.exec = Jvm.exec → c.code = cc → meth.sig.returnType = ret → c.maxLocals = maxL → s.vm.findClass y.cls = some m.cls → (∀ w ∈ xU, w.before args s = true) → meth.locks = false → meth.name = y.name → B s → lv_has ls maxL (lv_args 0 av) → W p l e rm s m args below meth c s.heap [] 0 0 (MQ below Qc args s mc ms free) (F0 m 0 ls [])) :
    Met l y (Cond.code y cc maxL ret :: xU) rm (va_Pc av B) Qc mc ms free := by
  refine Met.ofW (cc := cc) (maxL := maxL) (ret := ret) hy rfl ?_
  intro p e s m args below meth c s₁ B0 hml hv
  obtain ⟨rfl, hB⟩ := hv
  have hts := atoms_spec (ws := Cond.code y cc maxL ret :: xU) B0.pre
  rw [lg_entry_eq]
  exact body p e s m _ below meth c _ B0.exec B0.bytes B0.returns hml (findClass_of_methodNamed B0.named) (fun w h => hts w (List.mem_cons_of_mem _ h)) B0.notSynchronized (name_of_methodNamed B0.named B0.method).1 hB (lv_entry av hn)
end
section
/-! what the state is, as numbers and functions; the class's cells for it -/
abbrev xRow : Type := Nat × (Nat → Int)
abbrev xPts : Type := Nat × (Nat → Nat) × (Nat → Nat) × (Nat → Int)
abbrev xCut : Type := xRow × (Int → Prop) × Prop × Nat
abbrev xSt : Type := (Nat → xRow) × (Nat → Option xRow) × xPts × (Nat → Option xCut)
/-- cells from a up to b alone may differ -/
def xO (a b : Nat) (en en' : Nat → va_E) : Prop := ∀ k : Nat, k < a ∨ b ≤ k → en' k = en k
theorem xO.rf {a b : Nat} {en : Nat → va_E} : xO a b en en := fun _ _ => rfl
theorem xO.tr {a b : Nat} {e0 e1 e2 : Nat → va_E} (h1 : xO a b e0 e1) (h2 : xO a b e1 e2) : xO a b e0 e2 := fun k h => (h2 k h).trans (h1 k h)
theorem xO.mo {a b a' b' : Nat} {e0 e1 : Nat → va_E} (h : xO a b e0 e1) (h1 : a' ≤ a) (h2 : b ≤ b') : xO a' b' e0 e1 := fun k hk => h k (by omega)
theorem xO.up {a b i : Nat} {e0 e1 : Nat → va_E} {x : va_E} (h : xO a b e0 e1) (h1 : a ≤ i) (h2 : i < b) : xO a b e0 (va_up e1 i x) := fun k hk => by rw [va_up_ne _ _ (by omega)]; exact h k hk
/-- a row of signs: its object and its array -/
def XR (cA : Nat → ClassId) (ad : Nat → Nat) (en : Nat → va_E) (i m : Nat) (f : Nat → Int) : Prop :=
  en i = .inr (2, [.ref (ad (i + 1)), .int (xI m)]) ∧ (∃ g : Nat → Int32, en (i + 1) = .inl (cA 0, 200, .inl g) ∧ ∀ k : Nat, k < m → g k = xI (f k)) ∧ m ≤ 200 ∧ ∀ k : Nat, k < m → 0 ≤ f k ∧ f k ≤ 255
theorem XR.kp {cA : Nat → ClassId} {ad : Nat → Nat} {en en' : Nat → va_E} {i m : Nat} {f : Nat → Int} (h : XR cA ad en i m f) (h1 : en' i = en i) (h2 : en' (i + 1) = en (i + 1)) : XR cA ad en' i m f := by
  obtain ⟨a1, ⟨g, a2, a3⟩, a4, a5⟩ := h
  exact ⟨h1.trans a1, ⟨g, h2.trans a2, a3⟩, a4, a5⟩
theorem XR.ko {cA : Nat → ClassId} {ad : Nat → Nat} {en en' : Nat → va_E} {i m a b : Nat} {f : Nat → Int} (h : XR cA ad en i m f) (ho : xO a b en en') (hi : i + 1 < a ∨ b ≤ i) : XR cA ad en' i m f := h.kp (ho i (by omega)) (ho (i + 1) (by omega))
theorem XR.to {cA : Nat → ClassId} {ad : Nat → Nat} {en : Nat → va_E} {i m m' : Nat} {f f' : Nat → Int} (h : XR cA ad en i m f) (hm : m = m') (hf : ∀ k : Nat, k < m → f k = f' k) : XR cA ad en i m' f' := by
  subst hm
  obtain ⟨a1, ⟨g, a2, a3⟩, a4, a5⟩ := h
  exact ⟨a1, ⟨g, a2, fun k hk => by rw [a3 k hk, hf k hk]⟩, a4, fun k hk => by rw [← hf k hk]; exact a5 k hk⟩
/-- a place for a text -/
def XT (cA : Nat → ClassId) (ad : Nat → Nat) (en : Nat → va_E) (i : Nat) : Option xRow → Prop
  | none => en i = .inr (3, [.ref (ad (i + 1)), .int (xI 1)]) ∧ ∃ (m : Nat) (f : Nat → Int), XR cA ad en (i + 1) m f
  | some r => en i = .inr (3, [.ref (ad (i + 1)), .int (xI 0)]) ∧ XR cA ad en (i + 1) r.1 r.2
theorem XT.ko {cA : Nat → ClassId} {ad : Nat → Nat} {en en' : Nat → va_E} {i a b : Nat} {o : Option xRow} (h : XT cA ad en i o) (ho : xO a b en en') (hi : i + 2 < a ∨ b ≤ i) : XT cA ad en' i o := by
  cases o with
  | none => exact ⟨(ho i (by omega)).trans h.1, h.2.choose, h.2.choose_spec.choose, h.2.choose_spec.choose_spec.ko ho (by omega)⟩
  | some r => exact ⟨(ho i (by omega)).trans h.1, h.2.ko ho (by omega)⟩
/-- the parts -/
def XP (cA : Nat → ClassId) (ad : Nat → Nat) (en : Nat → va_E) (P : xPts) : Prop :=
  en 4 = .inr (1, [.ref (ad 5), .ref (ad 7), .ref (ad 8), .int (xI P.1)]) ∧ (∃ wn : Nat, XR cA ad en 5 wn P.2.2.2 ∧ ∀ k : Nat, k < P.1 → P.2.2.1 k ≤ wn) ∧
  (∃ g : Nat → Int32, en 7 = .inl (cA 0, 201, .inl g) ∧ ∀ k : Nat, k < P.1 → g k = xI (P.2.1 k)) ∧ (∃ g : Nat → Int32, en 8 = .inl (cA 0, 201, .inl g) ∧ ∀ k : Nat, k < P.1 → g k = xI (P.2.2.1 k)) ∧
  P.1 ≤ 201 ∧ (∀ k : Nat, k < P.1 → P.2.1 k ≤ P.2.2.1 k) ∧ (0 < P.1 → P.2.1 0 = 0) ∧ ∀ k : Nat, k + 1 < P.1 → P.2.1 (k + 1) = P.2.2.1 k + 1
theorem XP.ko {cA : Nat → ClassId} {ad : Nat → Nat} {en en' : Nat → va_E} {a b : Nat} {P : xPts} (h : XP cA ad en P) (ho : xO a b en en') (hi : 8 < a ∨ b ≤ 4) : XP cA ad en' P := by
  obtain ⟨h1, ⟨wn, h2, h3⟩, ⟨g, h4, h5⟩, ⟨g2, h6, h7⟩, h8⟩ := h
  exact ⟨(ho 4 (by omega)).trans h1, ⟨wn, h2.ko ho (by omega), h3⟩, ⟨g, (ho 7 (by omega)).trans h4, h5⟩, ⟨g2, (ho 8 (by omega)).trans h6, h7⟩, h8⟩
/-- a cutter -/
def XC (cA : Nat → ClassId) (ad : Nat → Nat) (en : Nat → va_E) (i : Nat) : Option xCut → Prop
  | none => ∃ (G : Prop) (pl : Int), en i = .inr (0, [.ref (ad (i + 1)), .ref (ad (i + 3)), .int (xb G), .int (xI 1), .int (xI pl)]) ∧ (∃ (m : Nat) (f : Nat → Int), XR cA ad en (i + 1) m f) ∧ ∃ g : Nat → Int32, en (i + 3) = .inl (cA 1, 256, .inl g)
  | some q => en i = .inr (0, [.ref (ad (i + 1)), .ref (ad (i + 3)), .int (xb q.2.2.1), .int (xI 0), .int (xI q.2.2.2)]) ∧ XR cA ad en (i + 1) q.1.1 q.1.2 ∧ q.2.2.2 ≤ q.1.1 ∧ ∃ g : Nat → Int32, en (i + 3) = .inl (cA 1, 256, .inl g) ∧ ∀ k : Nat, k < 256 → g k = xb (q.2.1 k)
theorem XC.ko {cA : Nat → ClassId} {ad : Nat → Nat} {en en' : Nat → va_E} {i a b : Nat} {o : Option xCut} (h : XC cA ad en i o) (ho : xO a b en en') (hi : i + 3 < a ∨ b ≤ i) : XC cA ad en' i o := by
  cases o with
  | none =>
    obtain ⟨G, pl, h1, ⟨m, f, h2⟩, g, h3⟩ := h
    exact ⟨G, pl, (ho i (by omega)).trans h1, ⟨m, f, h2.ko ho (by omega)⟩, g, (ho _ (by omega)).trans h3⟩
  | some q =>
    obtain ⟨h1, h2, h3, g, h4, h5⟩ := h
    exact ⟨(ho i (by omega)).trans h1, h2.ko ho (by omega), h3, g, (ho _ (by omega)).trans h4, h5⟩
def sp_four : Nat → Int := fun k => if k = 0 then 110 else if k = 1 then 117 else 108
/-- the whole object: cells 0 to 52 -/
def CW (cA : Nat → ClassId) (ad : Nat → Nat) (en : Nat → va_E) (S : xSt) : Prop :=
  en 0 = .inr (4, [.ref (ad 1), .ref (ad 2), .ref (ad 3), .ref (ad 4), .ref (ad 9), .ref (ad 11)]) ∧
  (∃ g : Nat → Option Nat, en 1 = .inl (cA 2, 4, .inr (.inr (.inr (.inr g)))) ∧ ∀ b : Nat, b < 4 → g b = some (ad (13 + 2 * b))) ∧
  (∃ g : Nat → Option Nat, en 2 = .inl (cA 3, 8, .inr (.inr (.inr (.inr g)))) ∧ ∀ t : Nat, t < 8 → g t = some (ad (21 + 3 * t))) ∧
  (∃ g : Nat → Option Nat, en 3 = .inl (cA 4, 2, .inr (.inr (.inr (.inr g)))) ∧ ∀ c : Nat, c < 2 → g c = some (ad (45 + 4 * c))) ∧
  XP cA ad en S.2.2.1 ∧ XR cA ad en 9 4 sp_four ∧ (∃ (m : Nat) (f : Nat → Int), XR cA ad en 11 m f) ∧
  (∀ b : Nat, b < 4 → XR cA ad en (13 + 2 * b) (S.1 b).1 (S.1 b).2) ∧ (∀ t : Nat, t < 8 → XT cA ad en (21 + 3 * t) (S.2.1 t)) ∧ ∀ c : Nat, c < 2 → XC cA ad en (45 + 4 * c) (S.2.2.2 c)
/-- one place of a function -/
def sp_up {α : Type} (f : Nat → α) (k : Nat) (v : α) : Nat → α := fun j => if j = k then v else f j
theorem sp_up_s {α : Type} (f : Nat → α) (k : Nat) (v : α) : sp_up f k v k = v := if_pos rfl
theorem sp_up_n {α : Type} (f : Nat → α) {k j : Nat} (v : α) (h : j ≠ k) : sp_up f k v j = f j := if_neg h
/-! changes of a part of the whole -/
section XCW
variable {cA : Nat → ClassId} {ad : Nat → Nat} {en en' : Nat → va_E} {S : xSt}
theorem CW.builder (h : CW cA ad en S) {b m : Nat} {f : Nat → Int} (hb : b < 4) (ho : xO (13 + 2 * b) (15 + 2 * b) en en') (hr : XR cA ad en' (13 + 2 * b) m f) : CW cA ad en' (sp_up S.1 b (m, f), S.2) := by
  obtain ⟨h0, ⟨g1, h1, h1'⟩, ⟨g2, h2, h2'⟩, ⟨g3, h3, h3'⟩, h4, h5, ⟨m6, f6, h6⟩, h7, h8, h9⟩ := h
  refine ⟨(ho 0 (by omega)).trans h0, ⟨g1, (ho 1 (by omega)).trans h1, h1'⟩, ⟨g2, (ho 2 (by omega)).trans h2, h2'⟩, ⟨g3, (ho 3 (by omega)).trans h3, h3'⟩, h4.ko ho (by omega), h5.ko ho (by omega), ⟨m6, f6, h6.ko ho (by omega)⟩, fun c hc => ?_, fun t ht => (h8 t ht).ko ho (by omega), fun c hc => (h9 c hc).ko ho (by omega)⟩
  by_cases e : c = b
  · subst e
    show XR cA ad en' (13 + 2 * c) (sp_up S.1 c (m, f) c).1 (sp_up S.1 c (m, f) c).2
    rw [sp_up_s]
    exact hr
  · show XR cA ad en' (13 + 2 * c) (sp_up S.1 b (m, f) c).1 (sp_up S.1 b (m, f) c).2
    rw [sp_up_n _ _ e]
    exact (h7 c hc).ko ho (by omega)
theorem CW.text (h : CW cA ad en S) {t : Nat} {o : Option xRow} (ht : t < 8) (ho : xO (21 + 3 * t) (24 + 3 * t) en en') (hr : XT cA ad en' (21 + 3 * t) o) : CW cA ad en' (S.1, sp_up S.2.1 t o, S.2.2) := by
  obtain ⟨h0, ⟨g1, h1, h1'⟩, ⟨g2, h2, h2'⟩, ⟨g3, h3, h3'⟩, h4, h5, ⟨m6, f6, h6⟩, h7, h8, h9⟩ := h
  refine ⟨(ho 0 (by omega)).trans h0, ⟨g1, (ho 1 (by omega)).trans h1, h1'⟩, ⟨g2, (ho 2 (by omega)).trans h2, h2'⟩, ⟨g3, (ho 3 (by omega)).trans h3, h3'⟩, h4.ko ho (by omega), h5.ko ho (by omega), ⟨m6, f6, h6.ko ho (by omega)⟩, fun c hc => (h7 c hc).ko ho (by omega), fun c hc => ?_, fun c hc => (h9 c hc).ko ho (by omega)⟩
  by_cases e : c = t
  · subst e
    show XT cA ad en' (21 + 3 * c) (sp_up S.2.1 c o c)
    rw [sp_up_s]
    exact hr
  · show XT cA ad en' (21 + 3 * c) (sp_up S.2.1 t o c)
    rw [sp_up_n _ _ e]
    exact (h8 c hc).ko ho (by omega)
theorem CW.cutter (h : CW cA ad en S) {t : Nat} {o : Option xCut} (ht : t < 2) (ho : xO (45 + 4 * t) (49 + 4 * t) en en') (hr : XC cA ad en' (45 + 4 * t) o) : CW cA ad en' (S.1, S.2.1, S.2.2.1, sp_up S.2.2.2 t o) := by
  obtain ⟨h0, ⟨g1, h1, h1'⟩, ⟨g2, h2, h2'⟩, ⟨g3, h3, h3'⟩, h4, h5, ⟨m6, f6, h6⟩, h7, h8, h9⟩ := h
  refine ⟨(ho 0 (by omega)).trans h0, ⟨g1, (ho 1 (by omega)).trans h1, h1'⟩, ⟨g2, (ho 2 (by omega)).trans h2, h2'⟩, ⟨g3, (ho 3 (by omega)).trans h3, h3'⟩, h4.ko ho (by omega), h5.ko ho (by omega), ⟨m6, f6, h6.ko ho (by omega)⟩, fun c hc => (h7 c hc).ko ho (by omega), fun c hc => (h8 c hc).ko ho (by omega), fun c hc => ?_⟩
  by_cases e : c = t
  · subst e
    show XC cA ad en' (45 + 4 * c) (sp_up S.2.2.2 c o c)
    rw [sp_up_s]
    exact hr
  · show XC cA ad en' (45 + 4 * c) (sp_up S.2.2.2 t o c)
    rw [sp_up_n _ _ e]
    exact (h9 c hc).ko ho (by omega)
theorem CW.pts (h : CW cA ad en S) {P : xPts} (ho : xO 4 9 en en') (hr : XP cA ad en' P) : CW cA ad en' (S.1, S.2.1, P, S.2.2.2) := by
  obtain ⟨h0, ⟨g1, h1, h1'⟩, ⟨g2, h2, h2'⟩, ⟨g3, h3, h3'⟩, h4, h5, ⟨m6, f6, h6⟩, h7, h8, h9⟩ := h
  exact ⟨(ho 0 (by omega)).trans h0, ⟨g1, (ho 1 (by omega)).trans h1, h1'⟩, ⟨g2, (ho 2 (by omega)).trans h2, h2'⟩, ⟨g3, (ho 3 (by omega)).trans h3, h3'⟩, hr, h5.ko ho (by omega), ⟨m6, f6, h6.ko ho (by omega)⟩, fun c hc => (h7 c hc).ko ho (by omega), fun c hc => (h8 c hc).ko ho (by omega), fun c hc => (h9 c hc).ko ho (by omega)⟩
theorem CW.spare (h : CW cA ad en S) {m : Nat} {f : Nat → Int} (ho : xO 11 13 en en') (hr : XR cA ad en' 11 m f) : CW cA ad en' S := by
  obtain ⟨h0, ⟨g1, h1, h1'⟩, ⟨g2, h2, h2'⟩, ⟨g3, h3, h3'⟩, h4, h5, -, h7, h8, h9⟩ := h
  exact ⟨(ho 0 (by omega)).trans h0, ⟨g1, (ho 1 (by omega)).trans h1, h1'⟩, ⟨g2, (ho 2 (by omega)).trans h2, h2'⟩, ⟨g3, (ho 3 (by omega)).trans h3, h3'⟩, h4.ko ho (by omega), h5.ko ho (by omega), ⟨m, f, hr⟩, fun c hc => (h7 c hc).ko ho (by omega), fun c hc => (h8 c hc).ko ho (by omega), fun c hc => (h9 c hc).ko ho (by omega)⟩
theorem CW.far (h : CW cA ad en S) {a b : Nat} (ho : xO a b en en') (ha : 53 ≤ a) : CW cA ad en' S := by
  obtain ⟨h0, ⟨g1, h1, h1'⟩, ⟨g2, h2, h2'⟩, ⟨g3, h3, h3'⟩, h4, h5, ⟨m6, f6, h6⟩, h7, h8, h9⟩ := h
  exact ⟨(ho 0 (by omega)).trans h0, ⟨g1, (ho 1 (by omega)).trans h1, h1'⟩, ⟨g2, (ho 2 (by omega)).trans h2, h2'⟩, ⟨g3, (ho 3 (by omega)).trans h3, h3'⟩, h4.ko ho (by omega), h5.ko ho (by omega), ⟨m6, f6, h6.ko ho (by omega)⟩, fun c hc => (h7 c hc).ko ho (by omega), fun c hc => (h8 c hc).ko ho (by omega), fun c hc => (h9 c hc).ko ho (by omega)⟩
end XCW
end
section
theorem k_X2_spans : xCal RX2 yX2_spans cX2_spans 3 (some .boolean) 2 := ⟨u_im_yX2_spans, u_se_yX2_spans, u_in_RX2, u_co_yX2_spans, by decide +kernel⟩
theorem k_X2_copy : xCal RX2 yX2_copy cX2_copy 4 (some .int) 3 := ⟨u_im_yX2_copy, u_se_yX2_copy, u_in_RX2, u_co_yX2_copy, by decide +kernel⟩
theorem k_X2_holds : xCal RX2 yX2_holds cX2_holds 2 (some .boolean) 1 := ⟨u_im_yX2_holds, u_se_yX2_holds, u_in_RX2, u_co_yX2_holds, by decide +kernel⟩
theorem k_X2_signThere : xCal RX2 yX2_signThere cX2_signThere 2 (some .int) 1 := ⟨u_im_yX2_signThere, u_se_yX2_signThere, u_in_RX2, u_co_yX2_signThere, by decide +kernel⟩
theorem k_X0_separateBy : xCal RX0 yX0_separateBy cX0_separateBy 4 none 1 := ⟨u_im_yX0_separateBy, u_se_yX0_separateBy, u_in_RX0, u_co_yX0_separateBy, by decide +kernel⟩
theorem k_X0_begin : xCal RX0 yX0_begin cX0_begin 4 none 3 := ⟨u_im_yX0_begin, u_se_yX0_begin, u_in_RX0, u_co_yX0_begin, by decide +kernel⟩
theorem k_X0_separatesAt : xCal RX0 yX0_separatesAt cX0_separatesAt 3 (some .boolean) 1 := ⟨u_im_yX0_separatesAt, u_se_yX0_separatesAt, u_in_RX0, u_co_yX0_separatesAt, by decide +kernel⟩
theorem k_X0_tokenStart : xCal RX0 yX0_tokenStart cX0_tokenStart 3 (some .int) 1 := ⟨u_im_yX0_tokenStart, u_se_yX0_tokenStart, u_in_RX0, u_co_yX0_tokenStart, by decide +kernel⟩
theorem k_X0_hasToken : xCal RX0 yX0_hasToken cX0_hasToken 1 (some .boolean) 0 := ⟨u_im_yX0_hasToken, u_se_yX0_hasToken, u_in_RX0, u_co_yX0_hasToken, by decide +kernel⟩
theorem k_X0_tokenEnd : xCal RX0 yX0_tokenEnd cX0_tokenEnd 3 (some .int) 1 := ⟨u_im_yX0_tokenEnd, u_se_yX0_tokenEnd, u_in_RX0, u_co_yX0_tokenEnd, by decide +kernel⟩
theorem k_X0_tokensLeft : xCal RX0 yX0_tokensLeft cX0_tokensLeft 3 (some .int) 0 := ⟨u_im_yX0_tokensLeft, u_se_yX0_tokensLeft, u_in_RX0, u_co_yX0_tokensLeft, by decide +kernel⟩
theorem k_X3_become : xCal RX3 yX3_become cX3_become 5 (some .int) 3 := ⟨u_im_yX3_become, u_se_yX3_become, u_in_RX3, u_co_yX3_become, by decide +kernel⟩
theorem k_X0_giveToken : xCal RX0 yX0_giveToken cX0_giveToken 3 (some .int) 1 := ⟨u_im_yX0_giveToken, u_se_yX0_giveToken, u_in_RX0, u_co_yX0_giveToken, by decide +kernel⟩
theorem k_X1_has : xCal RX1 yX1_has cX1_has 2 (some .boolean) 1 := ⟨u_im_yX1_has, u_se_yX1_has, u_in_RX1, u_co_yX1_has, by decide +kernel⟩
theorem k_X1_start : xCal RX1 yX1_start cX1_start 2 (some .int) 1 := ⟨u_im_yX1_start, u_se_yX1_start, u_in_RX1, u_co_yX1_start, by decide +kernel⟩
theorem k_X1_end : xCal RX1 yX1_end cX1_end 2 (some .int) 1 := ⟨u_im_yX1_end, u_se_yX1_end, u_in_RX1, u_co_yX1_end, by decide +kernel⟩
theorem k_X1_mayPart : xCal RX1 yX1_mayPart cX1_mayPart 2 (some .boolean) 1 := ⟨u_im_yX1_mayPart, u_se_yX1_mayPart, u_in_RX1, u_co_yX1_mayPart, by decide +kernel⟩
theorem k_X1_addPart : xCal RX1 yX1_addPart cX1_addPart 3 none 2 := ⟨u_im_yX1_addPart, u_se_yX1_addPart, u_in_RX1, u_co_yX1_addPart, by decide +kernel⟩
theorem k_X1_dropEmptyEnd : xCal RX1 yX1_dropEmptyEnd cX1_dropEmptyEnd 2 none 0 := ⟨u_im_yX1_dropEmptyEnd, u_se_yX1_dropEmptyEnd, u_in_RX1, u_co_yX1_dropEmptyEnd, by decide +kernel⟩
theorem k_X1_fall : xCal RX1 yX1_fall cX1_fall 6 none 3 := ⟨u_im_yX1_fall, u_se_yX1_fall, u_in_RX1, u_co_yX1_fall, by decide +kernel⟩
theorem k_X2_write : xCal RX2 yX2_write cX2_write 3 none 2 := ⟨u_im_yX2_write, u_se_yX2_write, u_in_RX2, u_co_yX2_write, by decide +kernel⟩
theorem k_X2_writeEach : xCal RX2 yX2_writeEach cX2_writeEach 4 none 2 := ⟨u_im_yX2_writeEach, u_se_yX2_writeEach, u_in_RX2, u_co_yX2_writeEach, by decide +kernel⟩
theorem k_X2_clear : xCal RX2 yX2_clear cX2_clear 1 none 0 := ⟨u_im_yX2_clear, u_se_yX2_clear, u_in_RX2, u_co_yX2_clear, by decide +kernel⟩
theorem k_X2_add : xCal RX2 yX2_add cX2_add 2 none 1 := ⟨u_im_yX2_add, u_se_yX2_add, u_in_RX2, u_co_yX2_add, by decide +kernel⟩
theorem k_X2_resize : xCal RX2 yX2_resize cX2_resize 3 none 1 := ⟨u_im_yX2_resize, u_se_yX2_resize, u_in_RX2, u_co_yX2_resize, by decide +kernel⟩
theorem k_X2_change : xCal RX2 yX2_change cX2_change 8 (some .int) 5 := ⟨u_im_yX2_change, u_se_yX2_change, u_in_RX2, u_co_yX2_change, by decide +kernel⟩
theorem k_X2_joinIn : xCal RX2 yX2_joinIn cX2_joinIn 3 (some .int) 2 := ⟨u_im_yX2_joinIn, u_se_yX2_joinIn, u_in_RX2, u_co_yX2_joinIn, by decide +kernel⟩
theorem k_X2_exchange : xCal RX2 yX2_exchange cX2_exchange 4 (some .int) 3 := ⟨u_im_yX2_exchange, u_se_yX2_exchange, u_in_RX2, u_co_yX2_exchange, by decide +kernel⟩
theorem k_X2_turnRound : xCal RX2 yX2_turnRound cX2_turnRound 4 none 0 := ⟨u_im_yX2_turnRound, u_se_yX2_turnRound, u_in_RX2, u_co_yX2_turnRound, by decide +kernel⟩
theorem k_X2_sameRegion : xCal RX2 yX2_sameRegion cX2_sameRegion 6 (some .boolean) 4 := ⟨u_im_yX2_sameRegion, u_se_yX2_sameRegion, u_in_RX2, u_co_yX2_sameRegion, by decide +kernel⟩
theorem k_X2_hasStanding : xCal RX2 yX2_hasStanding cX2_hasStanding 3 (some .boolean) 2 := ⟨u_im_yX2_hasStanding, u_se_yX2_hasStanding, u_in_RX2, u_co_yX2_hasStanding, by decide +kernel⟩
theorem k_X2_findForward : xCal RX2 yX2_findForward cX2_findForward 4 (some .int) 2 := ⟨u_im_yX2_findForward, u_se_yX2_findForward, u_in_RX2, u_co_yX2_findForward, by decide +kernel⟩
theorem k_X2_findBackward : xCal RX2 yX2_findBackward cX2_findBackward 4 (some .int) 2 := ⟨u_im_yX2_findBackward, u_se_yX2_findBackward, u_in_RX2, u_co_yX2_findBackward, by decide +kernel⟩
theorem k_X2_signForward : xCal RX2 yX2_signForward cX2_signForward 4 (some .int) 2 := ⟨u_im_yX2_signForward, u_se_yX2_signForward, u_in_RX2, u_co_yX2_signForward, by decide +kernel⟩
theorem k_X2_signBackward : xCal RX2 yX2_signBackward cX2_signBackward 4 (some .int) 2 := ⟨u_im_yX2_signBackward, u_se_yX2_signBackward, u_in_RX2, u_co_yX2_signBackward, by decide +kernel⟩
theorem k_X2_against : xCal RX2 yX2_against cX2_against 5 (some .int) 1 := ⟨u_im_yX2_against, u_se_yX2_against, u_in_RX2, u_co_yX2_against, by decide +kernel⟩
theorem k_X2_blanksAhead : xCal RX2 yX2_blanksAhead cX2_blanksAhead 2 (some .int) 0 := ⟨u_im_yX2_blanksAhead, u_se_yX2_blanksAhead, u_in_RX2, u_co_yX2_blanksAhead, by decide +kernel⟩
theorem k_X2_endBeforeBlanks : xCal RX2 yX2_endBeforeBlanks cX2_endBeforeBlanks 3 (some .int) 1 := ⟨u_im_yX2_endBeforeBlanks, u_se_yX2_endBeforeBlanks, u_in_RX2, u_co_yX2_endBeforeBlanks, by decide +kernel⟩
theorem k_X4_builderOf : xCal RX4 yX4_builderOf cX4_builderOf 2 (some (.object "RowsOfSigns$Row")) 1 := ⟨u_im_yX4_builderOf, u_se_yX4_builderOf, u_in_RX4, u_co_yX4_builderOf, by decide +kernel⟩
theorem k_X4_isSign : xCalS yX4_isSign cX4_isSign 1 (some .boolean) 1 := ⟨u_st_yX4_isSign, u_in_RX4, u_co_yX4_isSign, by decide +kernel⟩
theorem k_X4_single : xCal RX4 yX4_single cX4_single 2 (some (.object "RowsOfSigns$Row")) 1 := ⟨u_im_yX4_single, u_se_yX4_single, u_in_RX4, u_co_yX4_single, by decide +kernel⟩
theorem k_X4_sign : xCal RX4 yX4_sign cX4_sign 4 (some .int) 2 := ⟨u_im_yX4_sign, u_se_yX4_sign, u_in_RX4, u_co_yX4_sign, by decide +kernel⟩
theorem k_X4_lowBytes : xCal RX4 yX4_lowBytes cX4_lowBytes 5 (some (.object "RowsOfSigns$Row")) 2 := ⟨u_im_yX4_lowBytes, u_se_yX4_lowBytes, u_in_RX4, u_co_yX4_lowBytes, by decide +kernel⟩
theorem k_X4_signs : xCal RX4 yX4_signs cX4_signs 6 (some .int) 3 := ⟨u_im_yX4_signs, u_se_yX4_signs, u_in_RX4, u_co_yX4_signs, by decide +kernel⟩
theorem k_X4_textOf : xCal RX4 yX4_textOf cX4_textOf 2 (some (.object "RowsOfSigns$Text")) 1 := ⟨u_im_yX4_textOf, u_se_yX4_textOf, u_in_RX4, u_co_yX4_textOf, by decide +kernel⟩
theorem k_X4_textOrFour : xCal RX4 yX4_textOrFour cX4_textOrFour 3 (some (.object "RowsOfSigns$Row")) 1 := ⟨u_im_yX4_textOrFour, u_se_yX4_textOrFour, u_in_RX4, u_co_yX4_textOrFour, by decide +kernel⟩
theorem k_X4_text : xCal RX4 yX4_text cX4_text 5 (some .int) 2 := ⟨u_im_yX4_text, u_se_yX4_text, u_in_RX4, u_co_yX4_text, by decide +kernel⟩
theorem k_X4_part : xCal RX4 yX4_part cX4_part 7 (some .int) 4 := ⟨u_im_yX4_part, u_se_yX4_part, u_in_RX4, u_co_yX4_part, by decide +kernel⟩
theorem k_X4_figures : xCal RX4 yX4_figures cX4_figures 6 (some (.object "RowsOfSigns$Row")) 1 := ⟨u_im_yX4_figures, u_se_yX4_figures, u_in_RX4, u_co_yX4_figures, by decide +kernel⟩
theorem k_X4_number : xCal RX4 yX4_number cX4_number 5 (some .int) 2 := ⟨u_im_yX4_number, u_se_yX4_number, u_in_RX4, u_co_yX4_number, by decide +kernel⟩
theorem k_X4_insert : xCal RX4 yX4_insert cX4_insert 6 (some .int) 3 := ⟨u_im_yX4_insert, u_se_yX4_insert, u_in_RX4, u_co_yX4_insert, by decide +kernel⟩
theorem k_X4_insertPart : xCal RX4 yX4_insertPart cX4_insertPart 8 (some .int) 5 := ⟨u_im_yX4_insertPart, u_se_yX4_insertPart, u_in_RX4, u_co_yX4_insertPart, by decide +kernel⟩
theorem k_X4_insertSign : xCal RX4 yX4_insertSign cX4_insertSign 5 (some .int) 3 := ⟨u_im_yX4_insertSign, u_se_yX4_insertSign, u_in_RX4, u_co_yX4_insertSign, by decide +kernel⟩
theorem k_X4_nothing : xCal RX4 yX4_nothing cX4_nothing 1 (some (.object "RowsOfSigns$Row")) 0 := ⟨u_im_yX4_nothing, u_se_yX4_nothing, u_in_RX4, u_co_yX4_nothing, by decide +kernel⟩
theorem k_X4_delete : xCal RX4 yX4_delete cX4_delete 5 (some .int) 3 := ⟨u_im_yX4_delete, u_se_yX4_delete, u_in_RX4, u_co_yX4_delete, by decide +kernel⟩
theorem k_X4_deleteAt : xCal RX4 yX4_deleteAt cX4_deleteAt 4 (some .int) 2 := ⟨u_im_yX4_deleteAt, u_se_yX4_deleteAt, u_in_RX4, u_co_yX4_deleteAt, by decide +kernel⟩
theorem k_X4_replace : xCal RX4 yX4_replace cX4_replace 7 (some .int) 4 := ⟨u_im_yX4_replace, u_se_yX4_replace, u_in_RX4, u_co_yX4_replace, by decide +kernel⟩
theorem k_X4_reverse : xCal RX4 yX4_reverse cX4_reverse 3 (some .int) 1 := ⟨u_im_yX4_reverse, u_se_yX4_reverse, u_in_RX4, u_co_yX4_reverse, by decide +kernel⟩
theorem k_X4_put : xCal RX4 yX4_put cX4_put 6 (some .int) 3 := ⟨u_im_yX4_put, u_se_yX4_put, u_in_RX4, u_co_yX4_put, by decide +kernel⟩
theorem k_X4_length : xCal RX4 yX4_length cX4_length 5 (some .int) 2 := ⟨u_im_yX4_length, u_se_yX4_length, u_in_RX4, u_co_yX4_length, by decide +kernel⟩
theorem k_X4_at : xCal RX4 yX4_at cX4_at 4 (some .int) 2 := ⟨u_im_yX4_at, u_se_yX4_at, u_in_RX4, u_co_yX4_at, by decide +kernel⟩
theorem k_X4_size : xCal RX4 yX4_size cX4_size 3 (some .int) 1 := ⟨u_im_yX4_size, u_se_yX4_size, u_in_RX4, u_co_yX4_size, by decide +kernel⟩
theorem k_X4_first : xCal RX4 yX4_first cX4_first 6 (some .int) 3 := ⟨u_im_yX4_first, u_se_yX4_first, u_in_RX4, u_co_yX4_first, by decide +kernel⟩
theorem k_X4_last : xCal RX4 yX4_last cX4_last 6 (some .int) 3 := ⟨u_im_yX4_last, u_se_yX4_last, u_in_RX4, u_co_yX4_last, by decide +kernel⟩
theorem k_X4_take : xCal RX4 yX4_take cX4_take 7 (some .int) 4 := ⟨u_im_yX4_take, u_se_yX4_take, u_in_RX4, u_co_yX4_take, by decide +kernel⟩
theorem k_J6_compare_7cf53 : xCalS yJ6_compare_7cf53 cJ6_compare_7cf53 2 (some .int) 2 := ⟨u_st_yJ6_compare_7cf53, u_in_RJ6, u_co_yJ6_compare_7cf53, by decide +kernel⟩
theorem k_X4_ahead : xCal RX4 yX4_ahead cX4_ahead 5 (some .int) 2 := ⟨u_im_yX4_ahead, u_se_yX4_ahead, u_in_RX4, u_co_yX4_ahead, by decide +kernel⟩
theorem k_X4_forget : xCal RX4 yX4_forget cX4_forget 3 (some .int) 1 := ⟨u_im_yX4_forget, u_se_yX4_forget, u_in_RX4, u_co_yX4_forget, by decide +kernel⟩
theorem k_X4_textSize : xCal RX4 yX4_textSize cX4_textSize 3 (some .int) 1 := ⟨u_im_yX4_textSize, u_se_yX4_textSize, u_in_RX4, u_co_yX4_textSize, by decide +kernel⟩
theorem k_X4_signAt : xCal RX4 yX4_signAt cX4_signAt 4 (some .int) 2 := ⟨u_im_yX4_signAt, u_se_yX4_signAt, u_in_RX4, u_co_yX4_signAt, by decide +kernel⟩
theorem k_X4_firstSign : xCal RX4 yX4_firstSign cX4_firstSign 5 (some .int) 3 := ⟨u_im_yX4_firstSign, u_se_yX4_firstSign, u_in_RX4, u_co_yX4_firstSign, by decide +kernel⟩
theorem k_X4_lastSign : xCal RX4 yX4_lastSign cX4_lastSign 5 (some .int) 3 := ⟨u_im_yX4_lastSign, u_se_yX4_lastSign, u_in_RX4, u_co_yX4_lastSign, by decide +kernel⟩
theorem k_X4_firstText : xCal RX4 yX4_firstText cX4_firstText 6 (some .int) 3 := ⟨u_im_yX4_firstText, u_se_yX4_firstText, u_in_RX4, u_co_yX4_firstText, by decide +kernel⟩
theorem k_X4_lastText : xCal RX4 yX4_lastText cX4_lastText 6 (some .int) 3 := ⟨u_im_yX4_lastText, u_se_yX4_lastText, u_in_RX4, u_co_yX4_lastText, by decide +kernel⟩
theorem k_X4_region : xCal RX4 yX4_region cX4_region 8 (some .int) 5 := ⟨u_im_yX4_region, u_se_yX4_region, u_in_RX4, u_co_yX4_region, by decide +kernel⟩
theorem k_X4_order : xCal RX4 yX4_order cX4_order 5 (some .int) 2 := ⟨u_im_yX4_order, u_se_yX4_order, u_in_RX4, u_co_yX4_order, by decide +kernel⟩
theorem k_X4_begins : xCal RX4 yX4_begins cX4_begins 6 (some .int) 3 := ⟨u_im_yX4_begins, u_se_yX4_begins, u_in_RX4, u_co_yX4_begins, by decide +kernel⟩
theorem k_X4_swap : xCal RX4 yX4_swap cX4_swap 7 (some .int) 4 := ⟨u_im_yX4_swap, u_se_yX4_swap, u_in_RX4, u_co_yX4_swap, by decide +kernel⟩
theorem k_X4_sub : xCal RX4 yX4_sub cX4_sub 7 (some .int) 4 := ⟨u_im_yX4_sub, u_se_yX4_sub, u_in_RX4, u_co_yX4_sub, by decide +kernel⟩
theorem k_X4_trim : xCal RX4 yX4_trim cX4_trim 6 (some .int) 2 := ⟨u_im_yX4_trim, u_se_yX4_trim, u_in_RX4, u_co_yX4_trim, by decide +kernel⟩
theorem k_X4_repeat : xCal RX4 yX4_repeat cX4_repeat 9 (some .int) 3 := ⟨u_im_yX4_repeat, u_se_yX4_repeat, u_in_RX4, u_co_yX4_repeat, by decide +kernel⟩
theorem k_X4_join : xCal RX4 yX4_join cX4_join 9 (some .int) 3 := ⟨u_im_yX4_join, u_se_yX4_join, u_in_RX4, u_co_yX4_join, by decide +kernel⟩
theorem k_X4_isSeparator : xCalS yX4_isSeparator cX4_isSeparator 2 (some .boolean) 1 := ⟨u_st_yX4_isSeparator, u_in_RX4, u_co_yX4_isSeparator, by decide +kernel⟩
theorem k_X4_split : xCal RX4 yX4_split cX4_split 5 (some .int) 3 := ⟨u_im_yX4_split, u_se_yX4_split, u_in_RX4, u_co_yX4_split, by decide +kernel⟩
theorem k_X4_parts : xCal RX4 yX4_parts cX4_parts 1 (some .int) 0 := ⟨u_im_yX4_parts, u_se_yX4_parts, u_in_RX4, u_co_yX4_parts, by decide +kernel⟩
theorem k_X4_partTo : xCal RX4 yX4_partTo cX4_partTo 4 (some .int) 2 := ⟨u_im_yX4_partTo, u_se_yX4_partTo, u_in_RX4, u_co_yX4_partTo, by decide +kernel⟩
theorem k_X4_joined : xCal RX4 yX4_joined cX4_joined 6 (some .int) 2 := ⟨u_im_yX4_joined, u_se_yX4_joined, u_in_RX4, u_co_yX4_joined, by decide +kernel⟩
theorem k_X4_cutterOf : xCal RX4 yX4_cutterOf cX4_cutterOf 2 (some (.object "RowsOfSigns$Cutter")) 1 := ⟨u_im_yX4_cutterOf, u_se_yX4_cutterOf, u_in_RX4, u_co_yX4_cutterOf, by decide +kernel⟩
theorem k_X4_cutter : xCal RX4 yX4_cutter cX4_cutter 8 (some .int) 4 := ⟨u_im_yX4_cutter, u_se_yX4_cutter, u_in_RX4, u_co_yX4_cutter, by decide +kernel⟩
theorem k_X4_more : xCal RX4 yX4_more cX4_more 3 (some .int) 1 := ⟨u_im_yX4_more, u_se_yX4_more, u_in_RX4, u_co_yX4_more, by decide +kernel⟩
theorem k_X4_left : xCal RX4 yX4_left cX4_left 3 (some .int) 1 := ⟨u_im_yX4_left, u_se_yX4_left, u_in_RX4, u_co_yX4_left, by decide +kernel⟩
theorem k_X4_next : xCal RX4 yX4_next cX4_next 5 (some .int) 2 := ⟨u_im_yX4_next, u_se_yX4_next, u_in_RX4, u_co_yX4_next, by decide +kernel⟩
theorem k_X4_nextBy : xCal RX4 yX4_nextBy cX4_nextBy 7 (some .int) 3 := ⟨u_im_yX4_nextBy, u_se_yX4_nextBy, u_in_RX4, u_co_yX4_nextBy, by decide +kernel⟩
theorem k_X4_mixed : xCalS yX4_mixed cX4_mixed 3 (some .long) 2 := ⟨u_st_yX4_mixed, u_in_RX4, u_co_yX4_mixed, by decide +kernel⟩
theorem k_X4_mixedRow : xCalS yX4_mixedRow cX4_mixedRow 8 (some .long) 4 := ⟨u_st_yX4_mixedRow, u_in_RX4, u_co_yX4_mixedRow, by decide +kernel⟩
theorem k_X4_digest : xCal RX4 yX4_digest cX4_digest 5 (some .long) 0 := ⟨u_im_yX4_digest, u_se_yX4_digest, u_in_RX4, u_co_yX4_digest, by decide +kernel⟩
theorem k_X5_in : xCalS yX5_in cX5_in 6 (some .boolean) 3 := ⟨u_st_yX5_in, u_in_RX5, u_co_yX5_in, by decide +kernel⟩
theorem k_X5_isBuilder : xCalS yX5_isBuilder cX5_isBuilder 1 (some .boolean) 1 := ⟨u_st_yX5_isBuilder, u_in_RX5, u_co_yX5_isBuilder, by decide +kernel⟩
theorem k_X5_isText : xCalS yX5_isText cX5_isText 1 (some .boolean) 1 := ⟨u_st_yX5_isText, u_in_RX5, u_co_yX5_isText, by decide +kernel⟩
theorem k_X5_isSign : xCalS yX5_isSign cX5_isSign 1 (some .boolean) 1 := ⟨u_st_yX5_isSign, u_in_RX5, u_co_yX5_isSign, by decide +kernel⟩
theorem k_X5_layText : xCal RX5 yX5_layText cX5_layText 3 none 1 := ⟨u_im_yX5_layText, u_se_yX5_layText, u_in_RX5, u_co_yX5_layText, by decide +kernel⟩
theorem k_X5_clip : xCal RX5 yX5_clip cX5_clip 4 none 2 := ⟨u_im_yX5_clip, u_se_yX5_clip, u_in_RX5, u_co_yX5_clip, by decide +kernel⟩
theorem k_X5_laySign : xCal RX5 yX5_laySign cX5_laySign 2 none 1 := ⟨u_im_yX5_laySign, u_se_yX5_laySign, u_in_RX5, u_co_yX5_laySign, by decide +kernel⟩
theorem k_X5_become : xCal RX5 yX5_become cX5_become 3 (some .int) 1 := ⟨u_im_yX5_become, u_se_yX5_become, u_in_RX5, u_co_yX5_become, by decide +kernel⟩
theorem k_X5_edit : xCal RX5 yX5_edit cX5_edit 8 (some .int) 3 := ⟨u_im_yX5_edit, u_se_yX5_edit, u_in_RX5, u_co_yX5_edit, by decide +kernel⟩
theorem k_X5_append : xCal RX5 yX5_append cX5_append 2 (some .int) 1 := ⟨u_im_yX5_append, u_se_yX5_append, u_in_RX5, u_co_yX5_append, by decide +kernel⟩
theorem k_X5_sign : xCal RX5 yX5_sign cX5_sign 3 (some .int) 2 := ⟨u_im_yX5_sign, u_se_yX5_sign, u_in_RX5, u_co_yX5_sign, by decide +kernel⟩
theorem k_X5_signs : xCal RX5 yX5_signs cX5_signs 6 (some .int) 3 := ⟨u_im_yX5_signs, u_se_yX5_signs, u_in_RX5, u_co_yX5_signs, by decide +kernel⟩
theorem k_X5_text : xCal RX5 yX5_text cX5_text 3 (some .int) 2 := ⟨u_im_yX5_text, u_se_yX5_text, u_in_RX5, u_co_yX5_text, by decide +kernel⟩
theorem k_X5_part : xCal RX5 yX5_part cX5_part 5 (some .int) 4 := ⟨u_im_yX5_part, u_se_yX5_part, u_in_RX5, u_co_yX5_part, by decide +kernel⟩
theorem k_X5_number : xCal RX5 yX5_number cX5_number 8 (some .int) 2 := ⟨u_im_yX5_number, u_se_yX5_number, u_in_RX5, u_co_yX5_number, by decide +kernel⟩
theorem k_X5_insert : xCal RX5 yX5_insert cX5_insert 4 (some .int) 3 := ⟨u_im_yX5_insert, u_se_yX5_insert, u_in_RX5, u_co_yX5_insert, by decide +kernel⟩
theorem k_X5_insertPart : xCal RX5 yX5_insertPart cX5_insertPart 6 (some .int) 5 := ⟨u_im_yX5_insertPart, u_se_yX5_insertPart, u_in_RX5, u_co_yX5_insertPart, by decide +kernel⟩
theorem k_X5_insertSign : xCal RX5 yX5_insertSign cX5_insertSign 4 (some .int) 3 := ⟨u_im_yX5_insertSign, u_se_yX5_insertSign, u_in_RX5, u_co_yX5_insertSign, by decide +kernel⟩
theorem k_X5_canDrop : xCal RX5 yX5_canDrop cX5_canDrop 4 (some .boolean) 3 := ⟨u_im_yX5_canDrop, u_se_yX5_canDrop, u_in_RX5, u_co_yX5_canDrop, by decide +kernel⟩
theorem k_X5_endOf : xCal RX5 yX5_endOf cX5_endOf 3 (some .int) 2 := ⟨u_im_yX5_endOf, u_se_yX5_endOf, u_in_RX5, u_co_yX5_endOf, by decide +kernel⟩
theorem k_X5_delete : xCal RX5 yX5_delete cX5_delete 4 (some .int) 3 := ⟨u_im_yX5_delete, u_se_yX5_delete, u_in_RX5, u_co_yX5_delete, by decide +kernel⟩
theorem k_X5_deleteAt : xCal RX5 yX5_deleteAt cX5_deleteAt 3 (some .int) 2 := ⟨u_im_yX5_deleteAt, u_se_yX5_deleteAt, u_in_RX5, u_co_yX5_deleteAt, by decide +kernel⟩
theorem k_X5_replace : xCal RX5 yX5_replace cX5_replace 5 (some .int) 4 := ⟨u_im_yX5_replace, u_se_yX5_replace, u_in_RX5, u_co_yX5_replace, by decide +kernel⟩
theorem k_X5_reverse : xCal RX5 yX5_reverse cX5_reverse 4 (some .int) 1 := ⟨u_im_yX5_reverse, u_se_yX5_reverse, u_in_RX5, u_co_yX5_reverse, by decide +kernel⟩
theorem k_X5_put : xCal RX5 yX5_put cX5_put 5 (some .int) 3 := ⟨u_im_yX5_put, u_se_yX5_put, u_in_RX5, u_co_yX5_put, by decide +kernel⟩
theorem k_X5_length : xCal RX5 yX5_length cX5_length 5 (some .int) 2 := ⟨u_im_yX5_length, u_se_yX5_length, u_in_RX5, u_co_yX5_length, by decide +kernel⟩
theorem k_X5_at : xCal RX5 yX5_at cX5_at 3 (some .int) 2 := ⟨u_im_yX5_at, u_se_yX5_at, u_in_RX5, u_co_yX5_at, by decide +kernel⟩
theorem k_X5_size : xCal RX5 yX5_size cX5_size 2 (some .int) 1 := ⟨u_im_yX5_size, u_se_yX5_size, u_in_RX5, u_co_yX5_size, by decide +kernel⟩
theorem k_X5_stands : xCal RX5 yX5_stands cX5_stands 7 (some .boolean) 4 := ⟨u_im_yX5_stands, u_se_yX5_stands, u_in_RX5, u_co_yX5_stands, by decide +kernel⟩
theorem k_X5_firstOf : xCal RX5 yX5_firstOf cX5_firstOf 7 (some .int) 4 := ⟨u_im_yX5_firstOf, u_se_yX5_firstOf, u_in_RX5, u_co_yX5_firstOf, by decide +kernel⟩
theorem k_X5_lastOf : xCal RX5 yX5_lastOf cX5_lastOf 6 (some .int) 4 := ⟨u_im_yX5_lastOf, u_se_yX5_lastOf, u_in_RX5, u_co_yX5_lastOf, by decide +kernel⟩
theorem k_X5_orderOf : xCalS yX5_orderOf cX5_orderOf 6 (some .int) 5 := ⟨u_st_yX5_orderOf, u_in_RX5, u_co_yX5_orderOf, by decide +kernel⟩
theorem k_X5_first : xCal RX5 yX5_first cX5_first 4 (some .int) 3 := ⟨u_im_yX5_first, u_se_yX5_first, u_in_RX5, u_co_yX5_first, by decide +kernel⟩
theorem k_X5_last : xCal RX5 yX5_last cX5_last 4 (some .int) 3 := ⟨u_im_yX5_last, u_se_yX5_last, u_in_RX5, u_co_yX5_last, by decide +kernel⟩
theorem k_X5_take : xCal RX5 yX5_take cX5_take 6 (some .int) 4 := ⟨u_im_yX5_take, u_se_yX5_take, u_in_RX5, u_co_yX5_take, by decide +kernel⟩
theorem k_X5_ahead : xCal RX5 yX5_ahead cX5_ahead 4 (some .int) 2 := ⟨u_im_yX5_ahead, u_se_yX5_ahead, u_in_RX5, u_co_yX5_ahead, by decide +kernel⟩
theorem k_X5_forget : xCal RX5 yX5_forget cX5_forget 3 (some .int) 1 := ⟨u_im_yX5_forget, u_se_yX5_forget, u_in_RX5, u_co_yX5_forget, by decide +kernel⟩
theorem k_X5_textSize : xCal RX5 yX5_textSize cX5_textSize 2 (some .int) 1 := ⟨u_im_yX5_textSize, u_se_yX5_textSize, u_in_RX5, u_co_yX5_textSize, by decide +kernel⟩
theorem k_X5_signAt : xCal RX5 yX5_signAt cX5_signAt 3 (some .int) 2 := ⟨u_im_yX5_signAt, u_se_yX5_signAt, u_in_RX5, u_co_yX5_signAt, by decide +kernel⟩
theorem k_X5_bars : xCal RX5 yX5_bars cX5_bars 3 (some .int) 2 := ⟨u_im_yX5_bars, u_se_yX5_bars, u_in_RX5, u_co_yX5_bars, by decide +kernel⟩
theorem k_X5_firstSign : xCal RX5 yX5_firstSign cX5_firstSign 5 (some .int) 3 := ⟨u_im_yX5_firstSign, u_se_yX5_firstSign, u_in_RX5, u_co_yX5_firstSign, by decide +kernel⟩
theorem k_X5_lastSign : xCal RX5 yX5_lastSign cX5_lastSign 5 (some .int) 3 := ⟨u_im_yX5_lastSign, u_se_yX5_lastSign, u_in_RX5, u_co_yX5_lastSign, by decide +kernel⟩
theorem k_X5_barsTwo : xCal RX5 yX5_barsTwo cX5_barsTwo 3 (some .int) 2 := ⟨u_im_yX5_barsTwo, u_se_yX5_barsTwo, u_in_RX5, u_co_yX5_barsTwo, by decide +kernel⟩
theorem k_X5_firstText : xCal RX5 yX5_firstText cX5_firstText 5 (some .int) 3 := ⟨u_im_yX5_firstText, u_se_yX5_firstText, u_in_RX5, u_co_yX5_firstText, by decide +kernel⟩
theorem k_X5_lastText : xCal RX5 yX5_lastText cX5_lastText 5 (some .int) 3 := ⟨u_im_yX5_lastText, u_se_yX5_lastText, u_in_RX5, u_co_yX5_lastText, by decide +kernel⟩
theorem k_X5_region : xCal RX5 yX5_region cX5_region 9 (some .int) 5 := ⟨u_im_yX5_region, u_se_yX5_region, u_in_RX5, u_co_yX5_region, by decide +kernel⟩
theorem k_X5_order : xCal RX5 yX5_order cX5_order 4 (some .int) 2 := ⟨u_im_yX5_order, u_se_yX5_order, u_in_RX5, u_co_yX5_order, by decide +kernel⟩
theorem k_X5_begins : xCal RX5 yX5_begins cX5_begins 5 (some .int) 3 := ⟨u_im_yX5_begins, u_se_yX5_begins, u_in_RX5, u_co_yX5_begins, by decide +kernel⟩
theorem k_X5_barsOne : xCal RX5 yX5_barsOne cX5_barsOne 3 (some .int) 2 := ⟨u_im_yX5_barsOne, u_se_yX5_barsOne, u_in_RX5, u_co_yX5_barsOne, by decide +kernel⟩
theorem k_X5_swap : xCal RX5 yX5_swap cX5_swap 6 (some .int) 4 := ⟨u_im_yX5_swap, u_se_yX5_swap, u_in_RX5, u_co_yX5_swap, by decide +kernel⟩
theorem k_X5_sub : xCal RX5 yX5_sub cX5_sub 6 (some .int) 4 := ⟨u_im_yX5_sub, u_se_yX5_sub, u_in_RX5, u_co_yX5_sub, by decide +kernel⟩
theorem k_X5_trim : xCal RX5 yX5_trim cX5_trim 6 (some .int) 2 := ⟨u_im_yX5_trim, u_se_yX5_trim, u_in_RX5, u_co_yX5_trim, by decide +kernel⟩
theorem k_X5_repeat : xCal RX5 yX5_repeat cX5_repeat 7 (some .int) 3 := ⟨u_im_yX5_repeat, u_se_yX5_repeat, u_in_RX5, u_co_yX5_repeat, by decide +kernel⟩
theorem k_X5_join : xCal RX5 yX5_join cX5_join 5 (some .int) 3 := ⟨u_im_yX5_join, u_se_yX5_join, u_in_RX5, u_co_yX5_join, by decide +kernel⟩
theorem k_X5_isSeparator : xCalS yX5_isSeparator cX5_isSeparator 2 (some .boolean) 1 := ⟨u_st_yX5_isSeparator, u_in_RX5, u_co_yX5_isSeparator, by decide +kernel⟩
theorem k_X5_layPart : xCal RX5 yX5_layPart cX5_layPart 3 none 2 := ⟨u_im_yX5_layPart, u_se_yX5_layPart, u_in_RX5, u_co_yX5_layPart, by decide +kernel⟩
theorem k_X5_split : xCal RX5 yX5_split cX5_split 6 (some .int) 3 := ⟨u_im_yX5_split, u_se_yX5_split, u_in_RX5, u_co_yX5_split, by decide +kernel⟩
theorem k_X5_parts : xCal RX5 yX5_parts cX5_parts 1 (some .int) 0 := ⟨u_im_yX5_parts, u_se_yX5_parts, u_in_RX5, u_co_yX5_parts, by decide +kernel⟩
theorem k_X5_addPart : xCal RX5 yX5_addPart cX5_addPart 3 none 1 := ⟨u_im_yX5_addPart, u_se_yX5_addPart, u_in_RX5, u_co_yX5_addPart, by decide +kernel⟩
theorem k_X5_partTo : xCal RX5 yX5_partTo cX5_partTo 3 (some .int) 2 := ⟨u_im_yX5_partTo, u_se_yX5_partTo, u_in_RX5, u_co_yX5_partTo, by decide +kernel⟩
theorem k_X5_joined : xCal RX5 yX5_joined cX5_joined 4 (some .int) 2 := ⟨u_im_yX5_joined, u_se_yX5_joined, u_in_RX5, u_co_yX5_joined, by decide +kernel⟩
theorem k_X5_isCutter : xCalS yX5_isCutter cX5_isCutter 1 (some .boolean) 1 := ⟨u_st_yX5_isCutter, u_in_RX5, u_co_yX5_isCutter, by decide +kernel⟩
theorem k_X5_isSeparatorAt : xCal RX5 yX5_isSeparatorAt cX5_isSeparatorAt 3 (some .boolean) 2 := ⟨u_im_yX5_isSeparatorAt, u_se_yX5_isSeparatorAt, u_in_RX5, u_co_yX5_isSeparatorAt, by decide +kernel⟩
theorem k_X5_laySeparators : xCal RX5 yX5_laySeparators cX5_laySeparators 4 none 2 := ⟨u_im_yX5_laySeparators, u_se_yX5_laySeparators, u_in_RX5, u_co_yX5_laySeparators, by decide +kernel⟩
theorem k_X5_beginOf : xCal RX5 yX5_beginOf cX5_beginOf 4 (some .int) 2 := ⟨u_im_yX5_beginOf, u_se_yX5_beginOf, u_in_RX5, u_co_yX5_beginOf, by decide +kernel⟩
theorem k_X5_behindOf : xCal RX5 yX5_behindOf cX5_behindOf 4 (some .int) 2 := ⟨u_im_yX5_behindOf, u_se_yX5_behindOf, u_in_RX5, u_co_yX5_behindOf, by decide +kernel⟩
theorem k_X5_leftOf : xCal RX5 yX5_leftOf cX5_leftOf 4 (some .int) 1 := ⟨u_im_yX5_leftOf, u_se_yX5_leftOf, u_in_RX5, u_co_yX5_leftOf, by decide +kernel⟩
theorem k_X5_cutter : xCal RX5 yX5_cutter cX5_cutter 6 (some .int) 4 := ⟨u_im_yX5_cutter, u_se_yX5_cutter, u_in_RX5, u_co_yX5_cutter, by decide +kernel⟩
theorem k_X5_more : xCal RX5 yX5_more cX5_more 2 (some .int) 1 := ⟨u_im_yX5_more, u_se_yX5_more, u_in_RX5, u_co_yX5_more, by decide +kernel⟩
theorem k_X5_left : xCal RX5 yX5_left cX5_left 2 (some .int) 1 := ⟨u_im_yX5_left, u_se_yX5_left, u_in_RX5, u_co_yX5_left, by decide +kernel⟩
theorem k_X5_takes : xCal RX5 yX5_takes cX5_takes 6 (some .int) 2 := ⟨u_im_yX5_takes, u_se_yX5_takes, u_in_RX5, u_co_yX5_takes, by decide +kernel⟩
theorem k_X5_next : xCal RX5 yX5_next cX5_next 3 (some .int) 2 := ⟨u_im_yX5_next, u_se_yX5_next, u_in_RX5, u_co_yX5_next, by decide +kernel⟩
theorem k_X5_nextBy : xCal RX5 yX5_nextBy cX5_nextBy 4 (some .int) 3 := ⟨u_im_yX5_nextBy, u_se_yX5_nextBy, u_in_RX5, u_co_yX5_nextBy, by decide +kernel⟩
theorem k_X5_mix : xCal RX5 yX5_mix cX5_mix 3 none 1 := ⟨u_im_yX5_mix, u_se_yX5_mix, u_in_RX5, u_co_yX5_mix, by decide +kernel⟩
theorem k_X5_digest : xCal RX5 yX5_digest cX5_digest 3 (some .long) 0 := ⟨u_im_yX5_digest, u_se_yX5_digest, u_in_RX5, u_co_yX5_digest, by decide +kernel⟩
theorem k_J9_abs_0f7a4 : xCalS yJ9_abs_0f7a4 cJ9_abs_0f7a4 1 (some .int) 1 := ⟨u_st_yJ9_abs_0f7a4, u_in_RJ9, u_co_yJ9_abs_0f7a4, by decide +kernel⟩
theorem k_J9_max_7cf53 : xCalS yJ9_max_7cf53 cJ9_max_7cf53 2 (some .int) 2 := ⟨u_st_yJ9_max_7cf53, u_in_RJ9, u_co_yJ9_max_7cf53, by decide +kernel⟩
theorem k_J9_min_7cf53 : xCalS yJ9_min_7cf53 cJ9_min_7cf53 2 (some .int) 2 := ⟨u_st_yJ9_min_7cf53, u_in_RJ9, u_co_yJ9_min_7cf53, by decide +kernel⟩
section XR3
variable {p : Program} {l : Launch} {e : Env} {R : Room} {s : State} {m : MethodId} {args : Array Value} {below : List Frame} {meth : Method} {c : Code} {H : Heap} {locs : List Loc} {cells slots : Nat} {Q : State → Prop}
variable {cc : ByteArray} {pc : Nat} {ls : Array Slot} {rest : List Value} {D : va_G} {cA : Nat → ClassId} {n : Nat} {ad : Nat → Nat} {en : Nat → va_E}
theorem x_i2l (hx : p.tables.exec = Jvm.exec) (hb : c.code = cc) {a : Int} (hdg : decode cc pc = .ok (.i2l, 1)) (ha : -2147483648 ≤ a ∧ a ≤ 2147483647) (kk : W p l e R s m args below meth c H locs cells slots Q (F0 m (pc + 1) ls (.long (xL a) :: rest))) : W p l e R s m args below meth c H locs cells slots Q (F0 m pc ls (.int (xI a) :: rest)) := lv_i2l (v := xL a) hx hb hdg (xI_l ha) kk
theorem x_ladd (hx : p.tables.exec = Jvm.exec) (hb : c.code = cc) {a b : Int} (hdg : decode cc pc = .ok (.ladd, 1)) (kk : W p l e R s m args below meth c H locs cells slots Q (F0 m (pc + 1) ls (.long (xL (a + b)) :: rest))) : W p l e R s m args below meth c H locs cells slots Q (F0 m pc ls (.long (xL b) :: .long (xL a) :: rest)) := lv_ladd hx hb hdg (by rw [xL_add]; exact kk)
theorem x_lmul (hx : p.tables.exec = Jvm.exec) (hb : c.code = cc) {a b : Int} (hdg : decode cc pc = .ok (.lmul, 1)) (kk : W p l e R s m args below meth c H locs cells slots Q (F0 m (pc + 1) ls (.long (xL (a * b)) :: rest))) : W p l e R s m args below meth c H locs cells slots Q (F0 m pc ls (.long (xL b) :: .long (xL a) :: rest)) := lv_lmul hx hb hdg (by rw [xL_mul]; exact kk)
theorem x_lcmp (hx : p.tables.exec = Jvm.exec) (hb : c.code = cc) {a b : Int} (hdg : decode cc pc = .ok (.lcmp, 1)) (hab : (-9223372036854775808 ≤ a ∧ a ≤ 9223372036854775807) ∧ (-9223372036854775808 ≤ b ∧ b ≤ 9223372036854775807)) (kk : W p l e R s m args below meth c H locs cells slots Q (F0 m (pc + 1) ls (.int (xI (xcmp a b)) :: rest))) : W p l e R s m args below meth c H locs cells slots Q (F0 m pc ls (.long (xL b) :: .long (xL a) :: rest)) := W.lcmp hx hb hdg (by rw [xcmp_e hab.1 hab.2]; exact kk)
theorem x_ldc2 (hx : p.tables.exec = Jvm.exec) (hb : c.code = cc) {own : String} {index : Nat} {v : Int64} {k : Int} (hown : s.vm.findClass own = some m.cls) (hconst : (Jvm.Cond.constantLong own index v).before args s = true) (hk : v = xL k) (hdg : decode cc pc = .ok (.ldc2_w index, 3)) (kk : W p l e R s m args below meth c H locs cells slots Q (F0 m (pc + 3) ls (.long (xL k) :: rest))) : W p l e R s m args below meth c H locs cells slots Q (F0 m pc ls rest) := lv_ldc2 hx hb hown hconst hdg (by rw [hk]; exact kk)
/-- a sign of a row -/
theorem x_rld (hx : p.tables.exec = Jvm.exec) (hb : c.code = cc) (hK : va_K D vwCl (xty cA) s) (hP : va_P D vwCl (xw n ad en) H) {i k : Nat} {f : Nat → Int} (hi : i + 1 < n) (hr : XR cA ad en i k f) {z : Int} (hz : 0 ≤ z ∧ z < k) (hdg : decode cc pc = .ok (.iaload, 1)) (kk : W p l e R s m args below meth c H locs cells slots Q (F0 m (pc + 1) ls (.int (xI (f z.toNat)) :: rest))) : W p l e R s m args below meth c H locs cells slots Q (F0 m pc ls (.int (xI z) :: .ref (ad (i + 1)) :: rest)) := by
  obtain ⟨a1, ⟨g, a2, a3⟩, a4, a5⟩ := hr
  exact x_ild hx hb hK hP hi a2 ⟨hz.1, by omega, by omega⟩ (a3 _ (by omega)) hdg kk
end XR3
theorem xcmp_gt {a b : Int} : 0 < xcmp a b ↔ b < a := by
  unfold xcmp
  split
  · omega
  · split <;> omega
theorem xcmp_ge {a b : Int} : 0 ≤ xcmp a b ↔ b ≤ a := by
  unfold xcmp
  split
  · omega
  · split <;> omega
theorem xcmp_ne {a b : Int} : ¬ xcmp a b = 0 ↔ ¬ a = b := by rw [xcmp_eq]
/-! what loops find -/
noncomputable def sp_u (P : Int → Prop) : Nat → Int → Int
  | 0, _ => -1
  | k + 1, a => @ite Int (P a) (Classical.propDecidable _) a (sp_u P k (a + 1))
/-- the least place from a on, below b -/
noncomputable def sp_find (P : Int → Prop) (a b : Int) : Int := sp_u P (b - a).toNat a
theorem sp_find_t {P : Int → Prop} {a b : Int} (h : a < b) (hp : P a) : sp_find P a b = a := by
  unfold sp_find
  rw [show (b - a).toNat = (b - (a + 1)).toNat + 1 by omega, sp_u, if_pos hp]
theorem sp_find_f {P : Int → Prop} {a b : Int} (h : a < b) (hp : ¬ P a) : sp_find P a b = sp_find P (a + 1) b := by
  unfold sp_find
  rw [show (b - a).toNat = (b - (a + 1)).toNat + 1 by omega, sp_u, if_neg hp]
theorem sp_find_e {P : Int → Prop} {a b : Int} (h : b ≤ a) : sp_find P a b = -1 := by
  unfold sp_find
  rw [show (b - a).toNat = 0 by omega, sp_u]
noncomputable def sp_d (P : Int → Prop) : Nat → Int
  | 0 => -1
  | k + 1 => @ite Int (P k) (Classical.propDecidable _) k (sp_d P k)
/-- the greatest place from a down -/
noncomputable def sp_rfind (P : Int → Prop) (a : Int) : Int := sp_d P (a + 1).toNat
theorem sp_rfind_t {P : Int → Prop} {a : Int} (h : 0 ≤ a) (hp : P a) : sp_rfind P a = a := by
  unfold sp_rfind
  rw [show (a + 1).toNat = a.toNat + 1 by omega, sp_d, show ((a.toNat : Nat) : Int) = a by omega, if_pos hp]
theorem sp_rfind_f {P : Int → Prop} {a : Int} (h : 0 ≤ a) (hp : ¬ P a) : sp_rfind P a = sp_rfind P (a - 1) := by
  unfold sp_rfind
  rw [show (a + 1).toNat = a.toNat + 1 by omega, sp_d, show ((a.toNat : Nat) : Int) = a by omega, if_neg hp, show (a - 1 + 1).toNat = a.toNat by omega]
theorem sp_rfind_e {P : Int → Prop} {a : Int} (h : a < 0) : sp_rfind P a = -1 := by
  unfold sp_rfind
  rw [show (a + 1).toNat = 0 by omega, sp_d]
theorem sp_find_c {P P' : Int → Prop} {a b : Int} (h : ∀ x : Int, a ≤ x → x < b → (P x ↔ P' x)) : sp_find P a b = sp_find P' a b := by
  generalize hk : (b - a).toNat = k
  induction k generalizing a with
  | zero => rw [sp_find_e (by omega), sp_find_e (by omega)]
  | succ k ih =>
    by_cases hp : P a
    · rw [sp_find_t (by omega) hp, sp_find_t (by omega) ((h a (by omega) (by omega)).mp hp)]
    · rw [sp_find_f (by omega) hp, sp_find_f (by omega) (fun z => hp ((h a (by omega) (by omega)).mpr z))]
      exact ih (fun x h1 h2 => h x (by omega) h2) (by omega)
theorem sp_rfind_c {P P' : Int → Prop} {a : Int} (h : ∀ x : Int, 0 ≤ x → x ≤ a → (P x ↔ P' x)) : sp_rfind P a = sp_rfind P' a := by
  generalize hk : (a + 1).toNat = k
  induction k generalizing a with
  | zero => rw [sp_rfind_e (by omega), sp_rfind_e (by omega)]
  | succ k ih =>
    by_cases hp : P a
    · rw [sp_rfind_t (by omega) hp, sp_rfind_t (by omega) ((h a (by omega) (by omega)).mp hp)]
    · rw [sp_rfind_f (by omega) hp, sp_rfind_f (by omega) (fun z => hp ((h a (by omega) (by omega)).mpr z))]
      exact ih (fun x h1 h2 => h x h1 (by omega)) (by omega)
/-- the order of two rows -/
def sp_o (f h : Nat → Int) (d : Int) : Nat → Nat → Int
  | 0, _ => d
  | k + 1, a => if f a = h a then sp_o f h d k (a + 1) else f a - h a
def sp_ord (f h : Nat → Int) (d a b : Int) : Int := sp_o f h d (b - a).toNat a.toNat
theorem sp_ord_t {f h : Nat → Int} {d a b : Int} (h0 : 0 ≤ a) (h1 : a < b) (hp : f a.toNat = h a.toNat) : sp_ord f h d a b = sp_ord f h d (a + 1) b := by
  unfold sp_ord
  rw [show (b - a).toNat = (b - (a + 1)).toNat + 1 by omega, sp_o, if_pos hp, show (a + 1).toNat = a.toNat + 1 by omega]
theorem sp_ord_f {f h : Nat → Int} {d a b : Int} (h1 : a < b) (hp : ¬ f a.toNat = h a.toNat) : sp_ord f h d a b = f a.toNat - h a.toNat := by
  unfold sp_ord
  rw [show (b - a).toNat = (b - (a + 1)).toNat + 1 by omega, sp_o, if_neg hp]
theorem sp_ord_e {f h : Nat → Int} {d a b : Int} (h1 : b ≤ a) : sp_ord f h d a b = d := by
  unfold sp_ord
  rw [show (b - a).toNat = 0 by omega, sp_o]
/-- past what is so: from a on, up to b -/
noncomputable def sp_w (P : Int → Prop) : Nat → Int → Int
  | 0, a => a
  | k + 1, a => @ite Int (P a) (Classical.propDecidable _) (sp_w P k (a + 1)) a
noncomputable def sp_while (P : Int → Prop) (a b : Int) : Int := sp_w P (b - a).toNat a
theorem sp_while_t {P : Int → Prop} {a b : Int} (h : a < b) (hp : P a) : sp_while P a b = sp_while P (a + 1) b := by
  unfold sp_while
  rw [show (b - a).toNat = (b - (a + 1)).toNat + 1 by omega, sp_w, if_pos hp]
theorem sp_while_f {P : Int → Prop} {a b : Int} (h : a < b) (hp : ¬ P a) : sp_while P a b = a := by
  unfold sp_while
  rw [show (b - a).toNat = (b - (a + 1)).toNat + 1 by omega, sp_w, if_neg hp]
theorem sp_while_e {P : Int → Prop} {a b : Int} (h : b ≤ a) : sp_while P a b = a := by
  unfold sp_while
  rw [show (b - a).toNat = 0 by omega, sp_w]
theorem sp_while_b {P : Int → Prop} {a b : Int} (h : a ≤ b) : a ≤ sp_while P a b ∧ sp_while P a b ≤ b := by
  generalize hk : (b - a).toNat = k
  induction k generalizing a with
  | zero => rw [sp_while_e (by omega)]; omega
  | succ k ih =>
    by_cases hp : P a
    · rw [sp_while_t (by omega) hp]
      have := ih (a := a + 1) (by omega) (by omega)
      omega
    · rw [sp_while_f (by omega) hp]; omega
/-- back over what is so: from b down to a -/
noncomputable def sp_bk (P : Int → Prop) (a : Int) : Nat → Int
  | 0 => a
  | k + 1 => @ite Int (P (a + k)) (Classical.propDecidable _) (sp_bk P a k) (a + k + 1)
noncomputable def sp_back (P : Int → Prop) (a b : Int) : Int := sp_bk P a (b - a).toNat
theorem sp_back_t {P : Int → Prop} {a b : Int} (h : a < b) (hp : P (b - 1)) : sp_back P a b = sp_back P a (b - 1) := by
  unfold sp_back
  rw [show (b - a).toNat = (b - 1 - a).toNat + 1 by omega, sp_bk, show a + ((b - 1 - a).toNat : Int) = b - 1 by omega, if_pos hp]
theorem sp_back_f {P : Int → Prop} {a b : Int} (h : a < b) (hp : ¬ P (b - 1)) : sp_back P a b = b := by
  unfold sp_back
  rw [show (b - a).toNat = (b - 1 - a).toNat + 1 by omega, sp_bk, show a + ((b - 1 - a).toNat : Int) = b - 1 by omega, if_neg hp]
  omega
theorem sp_back_e {P : Int → Prop} {a b : Int} (h : b ≤ a) : sp_back P a b = a := by
  unfold sp_back
  rw [show (b - a).toNat = 0 by omega, sp_bk]
theorem sp_back_b {P : Int → Prop} {a b : Int} (h : a ≤ b) : a ≤ sp_back P a b ∧ sp_back P a b ≤ b := by
  generalize hk : (b - a).toNat = k
  induction k generalizing b with
  | zero => rw [sp_back_e (by omega)]; omega
  | succ k ih =>
    by_cases hp : P (b - 1)
    · rw [sp_back_t (by omega) hp]
      have := ih (b := b - 1) (by omega) (by omega)
      omega
    · rw [sp_back_f (by omega) hp]; omega
/-- a row stands in another one -/
def sp_st (f : Nat → Int) (m : Nat) (h : Nat → Int) (k : Nat) (a : Int) : Prop := 0 ≤ a ∧ a + k ≤ m ∧ ∀ t : Nat, t < k → f (a.toNat + t) = h t
/-- a part of a row is another's -/
def sp_rg (f : Nat → Int) (m : Nat) (a : Int) (h : Nat → Int) (k : Nat) (b c : Int) : Prop := (0 ≤ a ∧ 0 ≤ b ∧ a + c ≤ m ∧ b + c ≤ k) ∧ ∀ t : Nat, (t : Int) < c → f (a.toNat + t) = h (b.toNat + t)
/-- a part of a row changed -/
def sp_ed (f : Nat → Int) (a b : Nat) (h : Nat → Int) (st len : Nat) : Nat → Int := fun t => if t < a then f t else if t < a + len then h (st + (t - a)) else f (t - (a + len) + b)
end
section
/-! rows of signs: what becomes of them -/
section XRL
variable {cA : Nat → ClassId} {ad : Nat → Nat} {en : Nat → va_E} {i m : Nat} {f : Nat → Int}
theorem XR.wr (h : XR cA ad en i m f) {g : Nat → Int32} (hg : en (i + 1) = .inl (cA 0, 200, .inl g)) {z : Nat} {v : Int} (hz : z < m) (hv : 0 ≤ v ∧ v ≤ 255) : XR cA ad (va_up en (i + 1) (.inl (cA 0, 200, .inl (upd g z (xI v))))) i m (sp_up f z v) := by
  obtain ⟨a1, ⟨g', a2, a3⟩, a4, a5⟩ := h
  have e : g' = g := by
    have := a2.symm.trans hg
    simpa using this
  subst e
  refine ⟨by rw [va_up_ne _ _ (by omega)]; exact a1, ⟨_, va_up_self _ _ _, fun k hk => ?_⟩, a4, fun k hk => ?_⟩
  · by_cases q : k = z
    · subst q; simp [upd, sp_up_s]
    · rw [sp_up_n _ _ q]; simp only [upd, if_neg q]; exact a3 k hk
  · by_cases q : k = z
    · subst q; rw [sp_up_s]; exact hv
    · rw [sp_up_n _ _ q]; exact a5 k hk
theorem XR.sz (h : XR cA ad en i m f) {z : Int} {m' : Nat} (hz : z = (m' : Int)) (hm : m' ≤ m) : XR cA ad (va_up en i (.inr (2, [.ref (ad (i + 1)), .int (xI z)]))) i m' f := by
  obtain ⟨a1, ⟨g, a2, a3⟩, a4, a5⟩ := h
  subst hz
  exact ⟨va_up_self _ _ _, ⟨g, by rw [va_up_ne _ _ (by omega)]; exact a2, fun k hk => a3 k (by omega)⟩, by omega, fun k hk => a5 k (by omega)⟩
theorem XR.mk (g : Nat → Int32) {en' : Nat → va_E} {z : Int} {m' : Nat} {f' : Nat → Int} (h1 : en' i = .inr (2, [.ref (ad (i + 1)), .int (xI z)])) (hz : z = (m' : Int)) (h2 : en' (i + 1) = .inl (cA 0, 200, .inl g)) (h3 : ∀ k : Nat, k < m' → g k = xI (f' k)) (h4 : m' ≤ 200) (h5 : ∀ k : Nat, k < m' → 0 ≤ f' k ∧ f' k ≤ 255) : XR cA ad en' i m' f' := by
  subst hz
  exact ⟨h1, ⟨g, h2, h3⟩, h4, h5⟩
end XRL

set_option maxRecDepth 20000 in
theorem c_X2_holds (l : Launch) (D : va_G) (cA : Nat → ClassId) (n : Nat) (ad : Nat → Nat) (en : Nat → va_E) {i m : Nat} {f : Nat → Int} (hi : i + 1 < n) (hr : XR cA ad en i m f) (z1 : Int) (hz1 : -2147483648 ≤ z1 ∧ z1 ≤ 2147483647) : Met l yX2_holds (Cond.code yX2_holds cX2_holds 2 (some .boolean) :: xU) (xrm 0 0) (va_Pc [.ref (ad i), .int (xI z1)] (xB D cA n ad en)) (vp_Si (fun z => z = xb (0 ≤ z1 ∧ z1 < (m : Int)))) 0 0 (fun _ => False) := by
  refine xmet (by decide) (Nat.le_of_ble_eq_true rfl) (fun p e s mm args below meth c ls hx hb hrt hml hown hts hlocks hname hB hl => ?_)
  obtain ⟨hP, hK, hN⟩ := hB
  have hl : lv_has ls 2 [(0, .ref (ad i)), (1, .int (xI z1))] := hl
  have hm := hr.2.2.1
  refine lv_iload_n hx hb dX2_holds_0 rfl (lv_at hl 1 rfl) ?_
  refine x_if_lt (tgt := 16) hx hb dX2_holds_1 (by decide) (by omega) (fun c_1 => ?_) (fun c_1 => ?_)
  · refine x_iconst hx hb dX2_holds_16 ?_
    exact xr_z hx hb hrt hlocks (xb_0 (by omega)) dX2_holds_17
  · refine lv_iload_n hx hb dX2_holds_4 rfl (lv_at hl 1 rfl) ?_
    refine lv_aload_n hx hb dX2_holds_5 rfl (lv_at hl 0 rfl) ?_
    refine x_get (T := TX2) (N := 2) hx hb hts uX2 hown hK hP (i := i) (by omega) hr.1 rfl 1 (by decide) u_fl_RX2_15 rfl dX2_holds_6 ?_
    refine x_icmp_ge (tgt := 16) hx hb dX2_holds_9 (by decide) (by omega) (fun c_9 => ?_) (fun c_9 => ?_)
    · refine x_iconst hx hb dX2_holds_16 ?_
      exact xr_z hx hb hrt hlocks (xb_0 (by omega)) dX2_holds_17
    · refine x_iconst hx hb dX2_holds_12 ?_
      refine lv_goto (tgt := 17) hx hb dX2_holds_13 (by decide) ?_
      exact xr_z hx hb hrt hlocks (xb_1 (by omega)) dX2_holds_17

set_option maxRecDepth 20000 in
theorem c_X2_spans (l : Launch) (D : va_G) (cA : Nat → ClassId) (n : Nat) (ad : Nat → Nat) (en : Nat → va_E) {i m : Nat} {f : Nat → Int} (hi : i + 1 < n) (hr : XR cA ad en i m f) (z1 z2 : Int) (hz1 : -2147483648 ≤ z1 ∧ z1 ≤ 2147483647) (hz2 : -2147483648 ≤ z2 ∧ z2 ≤ 2147483647) : Met l yX2_spans (Cond.code yX2_spans cX2_spans 3 (some .boolean) :: xU) (xrm 0 0) (va_Pc [.ref (ad i), .int (xI z1), .int (xI z2)] (xB D cA n ad en)) (vp_Si (fun z => z = xb (0 ≤ z1 ∧ z1 ≤ z2 ∧ z2 ≤ (m : Int)))) 0 0 (fun _ => False) := by
  refine xmet (by decide) (Nat.le_of_ble_eq_true rfl) (fun p e s mm args below meth c ls hx hb hrt hml hown hts hlocks hname hB hl => ?_)
  obtain ⟨hP, hK, hN⟩ := hB
  have hl : lv_has ls 3 [(0, .ref (ad i)), (1, .int (xI z1)), (2, .int (xI z2))] := hl
  have hm := hr.2.2.1
  refine lv_iload_n hx hb dX2_spans_0 rfl (lv_at hl 1 rfl) ?_
  refine x_if_lt (tgt := 21) hx hb dX2_spans_1 (by decide) (by omega) (fun c_1 => ?_) (fun c_1 => ?_)
  · refine x_iconst hx hb dX2_spans_21 ?_
    exact xr_z hx hb hrt hlocks (xb_0 (by omega)) dX2_spans_22
  · refine lv_iload_n hx hb dX2_spans_4 rfl (lv_at hl 1 rfl) ?_
    refine lv_iload_n hx hb dX2_spans_5 rfl (lv_at hl 2 rfl) ?_
    refine x_icmp_gt (tgt := 21) hx hb dX2_spans_6 (by decide) (by omega) (fun c_6 => ?_) (fun c_6 => ?_)
    · refine x_iconst hx hb dX2_spans_21 ?_
      exact xr_z hx hb hrt hlocks (xb_0 (by omega)) dX2_spans_22
    · refine lv_iload_n hx hb dX2_spans_9 rfl (lv_at hl 2 rfl) ?_
      refine lv_aload_n hx hb dX2_spans_10 rfl (lv_at hl 0 rfl) ?_
      refine x_get (T := TX2) (N := 2) hx hb hts uX2 hown hK hP (i := i) (by omega) hr.1 rfl 1 (by decide) u_fl_RX2_15 rfl dX2_spans_11 ?_
      refine x_icmp_gt (tgt := 21) hx hb dX2_spans_14 (by decide) (by omega) (fun c_14 => ?_) (fun c_14 => ?_)
      · refine x_iconst hx hb dX2_spans_21 ?_
        exact xr_z hx hb hrt hlocks (xb_0 (by omega)) dX2_spans_22
      · refine x_iconst hx hb dX2_spans_17 ?_
        refine lv_goto (tgt := 22) hx hb dX2_spans_18 (by decide) ?_
        exact xr_z hx hb hrt hlocks (xb_1 (by omega)) dX2_spans_22

set_option maxRecDepth 20000 in
theorem c_X2_signThere (l : Launch) (D : va_G) (cA : Nat → ClassId) (n : Nat) (ad : Nat → Nat) (en : Nat → va_E) {i m : Nat} {f : Nat → Int} (hi : i + 1 < n) (hr : XR cA ad en i m f) (z1 : Int) (h1 : 0 ≤ z1 ∧ z1 < (m : Int)) : Met l yX2_signThere (Cond.code yX2_signThere cX2_signThere 2 (some .int) :: xU) (xrm 1 21) (va_Pc [.ref (ad i), .int (xI z1)] (xB D cA n ad en)) (vp_Si (fun z => z = xI (f z1.toNat))) 0 0 (fun _ => False) := by
  refine xmet (by decide) (Nat.le_of_ble_eq_true rfl) (fun p e s mm args below meth c ls hx hb hrt hml hown hts hlocks hname hB hl => ?_)
  obtain ⟨hP, hK, hN⟩ := hB
  have hl : lv_has ls 2 [(0, .ref (ad i)), (1, .int (xI z1))] := hl
  have hm := hr.2.2.1
  refine lv_aload_n hx hb dX2_signThere_0 rfl (lv_at hl 0 rfl) ?_
  refine lv_iload_n hx hb dX2_signThere_1 rfl (lv_at hl 1 rfl) ?_
  refine xv_i (i := i) (As := [.int (xI z1)]) (rest := []) ⟨hx, hb, hml, hown, hts⟩ hl.1 (c_X2_holds l D cA n ad en (by omega) hr z1 (by omega)) k_X2_holds u_ml_RX2_19 hK hN hP (by omega) hr.1 rfl rfl rfl rfl (Nat.le_of_ble_eq_true rfl) ⟨Nat.le_of_ble_eq_true rfl, Nat.le_of_ble_eq_true rfl⟩ ⟨Nat.le_of_ble_eq_true rfl, Nat.le_of_ble_eq_true rfl⟩ dX2_signThere_2 ?_
  refine x_ifb_eq (tgt := 17) hx hb dX2_signThere_5 (by decide)  (fun c_5 => absurd h1 c_5) (fun c_5 => ?_)
  refine lv_aload_n hx hb dX2_signThere_8 rfl (lv_at hl 0 rfl) ?_
  refine x_get (T := TX2) (N := 2) hx hb hts uX2 hown hK hP (i := i) (by omega) hr.1 rfl 0 (by decide) u_fl_RX2_9 rfl dX2_signThere_9 ?_
  refine lv_iload_n hx hb dX2_signThere_12 rfl (lv_at hl 1 rfl) ?_
  refine x_rld hx hb hK hP (i := i) (by omega) hr (by omega) dX2_signThere_13 ?_
  refine lv_goto (tgt := 18) hx hb dX2_signThere_14 (by decide) ?_
  exact xr_i hx hb hrt hlocks (rfl) dX2_signThere_18

set_option maxRecDepth 20000 in
theorem c_X2_write (l : Launch) (D : va_G) (cA : Nat → ClassId) (n : Nat) (ad : Nat → Nat) (en : Nat → va_E) (sz : Nat) {i m : Nat} {f : Nat → Int} (hi : i + 1 < n) (hr : XR cA ad en i m f) (z1 z2 : Int) (h1 : 0 ≤ z1 ∧ z1 < (m : Int)) (hz2 : 0 ≤ z2 ∧ z2 ≤ 255) : Met l yX2_write (Cond.code yX2_write cX2_write 3 none :: xU) (xrm 1 21) (va_Pc [.ref (ad i), .int (xI z1), .int (xI z2)] (xM D cA n ad en sz)) (va_Qv (fun u => XR cA ad u i m (sp_up f z1.toNat z2) ∧ xO i (i + 2) en u) (xE D n ad) (xA n ad sz)) 0 0 (xA n ad sz) := by
  refine xmet (by decide) (Nat.le_of_ble_eq_true rfl) (fun p e s mm args below meth c ls hx hb hrt hml hown hts hlocks hname hB hl => ?_)
  obtain ⟨⟨hP, hK, hN⟩, hsz, hDt⟩ := hB
  have hD : xD (xA n ad sz) n ad := xD_self hDt sz
  have hA : ∀ q : Nat, s.heap.size ≤ q → xA n ad sz q := fun q h => Or.inr (by rw [← hsz]; exact h)
  have hS : va_S (xA n ad sz) s.heap s.heap [] := va_S.rf
  have hown : s.vm.findClass RX2 = some mm.cls := hown
  have hl : lv_has ls 3 [(0, .ref (ad i)), (1, .int (xI z1)), (2, .int (xI z2))] := hl
  have hm := hr.2.2.1
  obtain ⟨g, hg1, hg2⟩ := hr.2.1
  refine lv_aload_n hx hb dX2_write_0 rfl (lv_at hl 0 rfl) ?_
  refine lv_iload_n hx hb dX2_write_1 rfl (lv_at hl 1 rfl) ?_
  refine xv_i (i := i) (As := [.int (xI z1)]) (rest := []) ⟨hx, hb, hml, hown, hts⟩ hl.1 (c_X2_holds l D cA n ad en (by omega) hr z1 (by omega)) k_X2_holds u_ml_RX2_19 hK hN hP (by omega) hr.1 rfl rfl rfl rfl (Nat.le_of_ble_eq_true rfl) ⟨Nat.le_of_ble_eq_true rfl, Nat.le_of_ble_eq_true rfl⟩ ⟨Nat.le_of_ble_eq_true rfl, Nat.le_of_ble_eq_true rfl⟩ dX2_write_2 ?_
  refine x_ifb_eq (tgt := 15) hx hb dX2_write_5 (by decide)  (fun c_5 => absurd h1 c_5) (fun c_5 => ?_)
  refine lv_aload_n hx hb dX2_write_8 rfl (lv_at hl 0 rfl) ?_
  refine x_get (T := TX2) (N := 2) hx hb hts uX2 hown hK hP (i := i) (by omega) hr.1 rfl 0 (by decide) u_fl_RX2_9 rfl dX2_write_9 ?_
  refine lv_iload_n hx hb dX2_write_12 rfl (lv_at hl 1 rfl) ?_
  refine lv_iload_n hx hb dX2_write_13 rfl (lv_at hl 2 rfl) ?_
  refine x_ist hx hb hK hP hD hS (i := i + 1) (by omega) hg1 (by omega) dX2_write_14 (fun H locs hP hS => ?_)
  have hP : va_P D vwCl (xw n ad (va_up en (i + 1) (.inl (cA 0, 200, .inl (upd g (Int.toNat z1) (xI z2)))))) H := hP
  obtain ⟨en1, he1⟩ : ∃ z, z = va_up en (i + 1) (.inl (cA 0, 200, .inl (upd g (Int.toNat z1) (xI z2)))) := ⟨_, rfl⟩
  rw [← he1] at hP
  have ho1 : en1 (i + 1) = (.inl (cA 0, 200, .inl (upd g (Int.toNat z1) (xI z2)))) := by rw [he1, va_up_self]
  have hk2 := (show en1 i = en i from by rw [he1, va_up_ne _ _ (by omega)]).trans hr.1
  subst he1
  exact xe_v hx hb hrt hlocks hP hS (⟨hr.wr hg1 (by omega) hz2, xO.rf.up (by omega) (by omega)⟩) dX2_write_15

set_option maxRecDepth 20000 in
theorem c_X2_writeEach (l : Launch) (D : va_G) (cA : Nat → ClassId) (n : Nat) (ad : Nat → Nat) (en : Nat → va_E) (sz : Nat) {i m : Nat} {f : Nat → Int} (hi : i + 1 < n) (hr : XR cA ad en i m f) (z1 z2 : Int) (hz1 : -2147483648 ≤ z1 ∧ z1 ≤ 2147483647) (hz2 : 0 ≤ z2 ∧ z2 ≤ 255) : Met l yX2_writeEach (Cond.code yX2_writeEach cX2_writeEach 4 none :: xU) (xrm 2 43) (va_Pc [.ref (ad i), .int (xI z1), .int (xI z2)] (xM D cA n ad en sz)) (va_Qv (fun u => XR cA ad u i m (fun t => if f t = z1 then z2 else f t) ∧ xO i (i + 2) en u) (xE D n ad) (xA n ad sz)) 0 0 (xA n ad sz) := by
  refine xmet (by decide) (Nat.le_of_ble_eq_true rfl) (fun p e s mm args below meth c ls hx hb hrt hml hown hts hlocks hname hB hl => ?_)
  obtain ⟨⟨hP, hK, hN⟩, hsz, hDt⟩ := hB
  have hD : xD (xA n ad sz) n ad := xD_self hDt sz
  have hA : ∀ q : Nat, s.heap.size ≤ q → xA n ad sz q := fun q h => Or.inr (by rw [← hsz]; exact h)
  have hS : va_S (xA n ad sz) s.heap s.heap [] := va_S.rf
  have hown : s.vm.findClass RX2 = some mm.cls := hown
  have hl : lv_has ls 4 [(0, .ref (ad i)), (1, .int (xI z1)), (2, .int (xI z2))] := hl
  have hm := hr.2.2.1
  refine x_iconst hx hb dX2_writeEach_0 ?_
  refine lv_istore_n (lv' := [(3, .int (xI 0)), (0, .ref (ad i)), (1, .int (xI z1)), (2, .int (xI z2))]) hx hb dX2_writeEach_1 rfl hl (by decide) rfl (fun ls hl => ?_)
  have L2 : ∀ (nn : Nat) (k : Int) (F : Nat → Int) (ew2 : Nat → va_E) (H : Heap) (locs : List Loc), (0 ≤ k ∧ k ≤ (m : Int)) → (∀ t : Nat, t < m → F t = if (t : Int) < k ∧ f t = z1 then z2 else f t) → (((m : Int) - k).toNat) < nn → (XR cA ad ew2 i m F) → (xO i (i + 2) en ew2) → va_P D vwCl (xw n ad ew2) H → va_S (xA n ad sz) s.heap H locs → ∀ ls : Array Slot, lv_has ls 4 [(0, .ref (ad i)), (1, .int (xI z1)), (2, .int (xI z2)), (3, .int (xI k))] → W p l e (xrm 2 43) s mm args below meth c H locs 0 0 (MQ below (va_Qv (fun u => XR cA ad u i m (fun t => if f t = z1 then z2 else f t) ∧ xO i (i + 2) en u) (xE D n ad) (xA n ad sz)) args s 0 0 (xA n ad sz)) (F0 mm 2 ls []) := by
    intro nn
    induction nn with
    | zero =>
      intro k F ew2 H locs hk hF hmm hr ho hP hS ls hl
      exact absurd hmm (Nat.not_lt_zero _)
    | succ nn ih =>
      intro k F ew2 H locs hk hF hmm hr ho hP hS ls hl
      refine lv_iload_n hx hb dX2_writeEach_2 rfl (lv_at hl 3 rfl) ?_
      refine lv_aload_n hx hb dX2_writeEach_3 rfl (lv_at hl 0 rfl) ?_
      refine x_get (T := TX2) (N := 2) hx hb hts uX2 hown hK hP (i := i) (by omega) hr.1 rfl 1 (by decide) u_fl_RX2_15 rfl dX2_writeEach_4 ?_
      refine x_icmp_ge (tgt := 31) hx hb dX2_writeEach_7 (by decide) (by omega) (fun c_7 => ?_) (fun c_7 => ?_)
      · exact xe_v hx hb hrt hlocks hP hS (⟨hr.to rfl (fun t ht => by have h1 := hF t ht; simp only [h1]; omega), ho⟩) dX2_writeEach_31
      · refine lv_aload_n hx hb dX2_writeEach_10 rfl (lv_at hl 0 rfl) ?_
        refine lv_iload_n hx hb dX2_writeEach_11 rfl (lv_at hl 3 rfl) ?_
        refine xv_i (i := i) (As := [.int (xI k)]) (rest := []) ⟨hx, hb, hml, hown, hts⟩ hl.1 (c_X2_signThere l D cA n ad ew2 (by omega) hr k (by omega)) k_X2_signThere u_ml_RX2_23 hK hN hP (by omega) hr.1 rfl rfl rfl rfl (Nat.le_of_ble_eq_true rfl) ⟨Nat.le_of_ble_eq_true rfl, Nat.le_of_ble_eq_true rfl⟩ ⟨Nat.le_of_ble_eq_true rfl, Nat.le_of_ble_eq_true rfl⟩ dX2_writeEach_12 ?_
        refine lv_iload_n hx hb dX2_writeEach_15 rfl (lv_at hl 1 rfl) ?_
        refine x_icmp_ne (tgt := 25) hx hb dX2_writeEach_16 (by decide) (by have := hr.2.2.2 k.toNat (by omega); omega) (fun c_16 => ?_) (fun c_16 => ?_)
        · refine x_iinc (lv' := [(3, .int (xI (k + 1))), (0, .ref (ad i)), (1, .int (xI z1)), (2, .int (xI z2))]) (k := 3) hx hb dX2_writeEach_25 hl rfl (by decide) rfl (fun ls hl => ?_)
          refine lv_goto (tgt := 2) hx hb dX2_writeEach_28 (by decide) ?_
          exact ih (k + 1) _ ew2 _ _ (by omega) (fun t ht => by
        have h1 := hF t ht
        have h2 := hF k.toNat (by omega)
        by_cases e : t = k.toNat
        · subst e
          rw [if_neg (by omega)] at h2
          (try rw [sp_up_s])
          split <;> omega
        · (try rw [sp_up_n _ _ e])
          rw [h1]
          split <;> split <;> omega) (by omega) hr ho hP hS ls (lv_sub hl [1, 2, 3, 0] rfl)
        · refine lv_aload_n hx hb dX2_writeEach_19 rfl (lv_at hl 0 rfl) ?_
          refine lv_iload_n hx hb dX2_writeEach_20 rfl (lv_at hl 3 rfl) ?_
          refine lv_iload_n hx hb dX2_writeEach_21 rfl (lv_at hl 2 rfl) ?_
          refine xm_v (i := i) (As := [.int (xI k), .int (xI z2)]) (rest := []) ⟨hx, hb, hml, hown, hts⟩ hl.1 (c_X2_write l D cA n ad ew2 _ (by omega) hr k z2 (by omega) (by omega)) k_X2_write u_ml_RX2_27 hK hN hP (by omega) hr.1 rfl rfl rfl rfl (Nat.le_of_ble_eq_true rfl) ⟨Nat.le_of_ble_eq_true rfl, Nat.le_of_ble_eq_true rfl⟩ ⟨Nat.le_of_ble_eq_true rfl, Nat.le_of_ble_eq_true rfl⟩ dX2_writeEach_22 hD hS hA (fun en1 H locs hp1 hP hS => ?_)
          obtain ⟨hr, hp1w⟩ := hp1
          have ho := ho.tr hp1w
          refine x_iinc (lv' := [(3, .int (xI (k + 1))), (0, .ref (ad i)), (1, .int (xI z1)), (2, .int (xI z2))]) (k := 3) hx hb dX2_writeEach_25 hl rfl (by decide) rfl (fun ls hl => ?_)
          refine lv_goto (tgt := 2) hx hb dX2_writeEach_28 (by decide) ?_
          exact ih (k + 1) _ en1 _ _ (by omega) (fun t ht => by
        have h1 := hF t ht
        have h2 := hF k.toNat (by omega)
        by_cases e : t = k.toNat
        · subst e
          rw [if_neg (by omega)] at h2
          (try rw [sp_up_s])
          split <;> omega
        · (try rw [sp_up_n _ _ e])
          rw [h1]
          split <;> split <;> omega) (by omega) hr ho hP hS ls (lv_sub hl [1, 2, 3, 0] rfl)
  exact L2 _ 0 f en _ _ (by omega) (fun t _ => by rw [if_neg (by omega)]) (Nat.lt_succ_self _) hr xO.rf hP hS ls (lv_sub hl [1, 2, 3, 0] rfl)

set_option maxRecDepth 20000 in
theorem c_X2_clear (l : Launch) (D : va_G) (cA : Nat → ClassId) (n : Nat) (ad : Nat → Nat) (en : Nat → va_E) (sz : Nat) {i m : Nat} {f : Nat → Int} (hi : i + 1 < n) (hr : XR cA ad en i m f) : Met l yX2_clear (Cond.code yX2_clear cX2_clear 1 none :: xU) (xrm 0 0) (va_Pc [.ref (ad i)] (xM D cA n ad en sz)) (va_Qv (fun u => XR cA ad u i 0 f ∧ xO i (i + 2) en u) (xE D n ad) (xA n ad sz)) 0 0 (xA n ad sz) := by
  refine xmet (by decide) (Nat.le_of_ble_eq_true rfl) (fun p e s mm args below meth c ls hx hb hrt hml hown hts hlocks hname hB hl => ?_)
  obtain ⟨⟨hP, hK, hN⟩, hsz, hDt⟩ := hB
  have hD : xD (xA n ad sz) n ad := xD_self hDt sz
  have hA : ∀ q : Nat, s.heap.size ≤ q → xA n ad sz q := fun q h => Or.inr (by rw [← hsz]; exact h)
  have hS : va_S (xA n ad sz) s.heap s.heap [] := va_S.rf
  have hown : s.vm.findClass RX2 = some mm.cls := hown
  have hl : lv_has ls 1 [(0, .ref (ad i))] := hl
  have hm := hr.2.2.1
  refine lv_aload_n hx hb dX2_clear_0 rfl (lv_at hl 0 rfl) ?_
  refine x_iconst hx hb dX2_clear_1 ?_
  refine x_put (T := TX2) (N := 2) (ty := .int) hx hb hts uX2 tyX2 tyX2_ok nmX2 hown hK hP hD hS (i := i) (by omega) hr.1 rfl 1 (by decide) u_fl_RX2_15 rfl (by decide +kernel) rfl rfl (by show 1 < 2; decide) dX2_clear_2 (fun H locs hP hS => ?_)
  have hP : va_P D vwCl (xw n ad (va_up en i (.inr (2, [.ref (ad (i + 1)), .int (xI 0)])))) H := hP
  obtain ⟨en1, he1⟩ : ∃ z, z = va_up en i (.inr (2, [.ref (ad (i + 1)), .int (xI 0)])) := ⟨_, rfl⟩
  rw [← he1] at hP
  have ho1 : en1 i = (.inr (2, [.ref (ad (i + 1)), .int (xI 0)])) := by rw [he1, va_up_self]
  subst he1
  exact xe_v hx hb hrt hlocks hP hS (⟨hr.sz rfl (by omega), xO.rf.up (by omega) (by omega)⟩) dX2_clear_5

set_option maxRecDepth 20000 in
theorem c_X2_add (l : Launch) (D : va_G) (cA : Nat → ClassId) (n : Nat) (ad : Nat → Nat) (en : Nat → va_E) (sz : Nat) {i m : Nat} {f : Nat → Int} (hi : i + 1 < n) (hr : XR cA ad en i m f) (hlt : m < 200) (z1 : Int) (hz1 : 0 ≤ z1 ∧ z1 ≤ 255) : Met l yX2_add (Cond.code yX2_add cX2_add 2 none :: xU) (xrm 0 0) (va_Pc [.ref (ad i), .int (xI z1)] (xM D cA n ad en sz)) (va_Qv (fun u => XR cA ad u i (m + 1) (sp_up f m z1) ∧ xO i (i + 2) en u) (xE D n ad) (xA n ad sz)) 0 0 (xA n ad sz) := by
  refine xmet (by decide) (Nat.le_of_ble_eq_true rfl) (fun p e s mm args below meth c ls hx hb hrt hml hown hts hlocks hname hB hl => ?_)
  obtain ⟨⟨hP, hK, hN⟩, hsz, hDt⟩ := hB
  have hD : xD (xA n ad sz) n ad := xD_self hDt sz
  have hA : ∀ q : Nat, s.heap.size ≤ q → xA n ad sz q := fun q h => Or.inr (by rw [← hsz]; exact h)
  have hS : va_S (xA n ad sz) s.heap s.heap [] := va_S.rf
  have hown : s.vm.findClass RX2 = some mm.cls := hown
  have hl : lv_has ls 2 [(0, .ref (ad i)), (1, .int (xI z1))] := hl
  have hm := hr.2.2.1
  obtain ⟨g, hg1, hg2⟩ := hr.2.1
  refine lv_aload_n hx hb dX2_add_0 rfl (lv_at hl 0 rfl) ?_
  refine x_get (T := TX2) (N := 2) hx hb hts uX2 hown hK hP (i := i) (by omega) hr.1 rfl 1 (by decide) u_fl_RX2_15 rfl dX2_add_1 ?_
  refine lv_aload_n hx hb dX2_add_4 rfl (lv_at hl 0 rfl) ?_
  refine x_get (T := TX2) (N := 2) hx hb hts uX2 hown hK hP (i := i) (by omega) hr.1 rfl 0 (by decide) u_fl_RX2_9 rfl dX2_add_5 ?_
  refine x_alen hx hb hK hP (i := i + 1) (by omega) 0 hg1 rfl dX2_add_8 ?_
  refine x_icmp_ge (tgt := 32) hx hb dX2_add_9 (by decide) (by omega) (fun c_9 => absurd c_9 (by omega)) (fun c_9 => ?_)
  refine lv_aload_n hx hb dX2_add_12 rfl (lv_at hl 0 rfl) ?_
  refine x_get (T := TX2) (N := 2) hx hb hts uX2 hown hK hP (i := i) (by omega) hr.1 rfl 0 (by decide) u_fl_RX2_9 rfl dX2_add_13 ?_
  refine lv_aload_n hx hb dX2_add_16 rfl (lv_at hl 0 rfl) ?_
  refine x_get (T := TX2) (N := 2) hx hb hts uX2 hown hK hP (i := i) (by omega) hr.1 rfl 1 (by decide) u_fl_RX2_15 rfl dX2_add_17 ?_
  refine lv_iload_n hx hb dX2_add_20 rfl (lv_at hl 1 rfl) ?_
  refine x_ist hx hb hK hP hD hS (i := i + 1) (by omega) hg1 (by omega) dX2_add_21 (fun H locs hP hS => ?_)
  have hP : va_P D vwCl (xw n ad (va_up en (i + 1) (.inl (cA 0, 200, .inl (upd g (Int.toNat (m : Int)) (xI z1)))))) H := hP
  obtain ⟨en1, he1⟩ : ∃ z, z = va_up en (i + 1) (.inl (cA 0, 200, .inl (upd g (Int.toNat (m : Int)) (xI z1)))) := ⟨_, rfl⟩
  rw [← he1] at hP
  have ho1 : en1 (i + 1) = (.inl (cA 0, 200, .inl (upd g (Int.toNat (m : Int)) (xI z1)))) := by rw [he1, va_up_self]
  have hk2 := (show en1 i = en i from by rw [he1, va_up_ne _ _ (by omega)]).trans hr.1
  refine lv_aload_n hx hb dX2_add_22 rfl (lv_at hl 0 rfl) ?_
  refine lv_dup hx hb dX2_add_23 rfl ?_
  refine x_get (T := TX2) (N := 2) hx hb hts uX2 hown hK hP (i := i) (by omega) hk2 rfl 1 (by decide) u_fl_RX2_15 rfl dX2_add_24 ?_
  refine x_iconst hx hb dX2_add_27 ?_
  refine x_iadd hx hb dX2_add_28 ?_
  refine x_put (T := TX2) (N := 2) (ty := .int) hx hb hts uX2 tyX2 tyX2_ok nmX2 hown hK hP hD hS (i := i) (by omega) hk2 rfl 1 (by decide) u_fl_RX2_15 rfl (by decide +kernel) rfl rfl (by show 1 < 2; decide) dX2_add_29 (fun H locs hP hS => ?_)
  have hP : va_P D vwCl (xw n ad (va_up en1 i (.inr (2, [.ref (ad (i + 1)), .int (xI ((m : Int) + 1))])))) H := hP
  obtain ⟨en3, he3⟩ : ∃ z, z = va_up en1 i (.inr (2, [.ref (ad (i + 1)), .int (xI ((m : Int) + 1))])) := ⟨_, rfl⟩
  rw [← he3] at hP
  have ho3 : en3 i = (.inr (2, [.ref (ad (i + 1)), .int (xI ((m : Int) + 1))])) := by rw [he3, va_up_self]
  have hk4 := (show en3 (i + 1) = en1 (i + 1) from by rw [he3, va_up_ne _ _ (by omega)]).trans ho1
  subst he3
  subst he1
  exact xe_v hx hb hrt hlocks hP hS (⟨XR.mk (upd g (Int.toNat (m : Int)) (xI z1)) (va_up_self _ _ _) (by omega) (by rw [va_up_ne _ _ (by omega)]; exact va_up_self _ _ _) (fun k hk => by
      by_cases q : k = m
      · subst q; simp [upd, sp_up_s]
      · rw [sp_up_n _ _ q]; simp only [upd]; rw [if_neg (by omega)]; exact hg2 k (by omega)) (by omega) (fun k hk => by
      by_cases q : k = m
      · subst q; rw [sp_up_s]; exact hz1
      · rw [sp_up_n _ _ q]; exact hr.2.2.2 k (by omega)), (xO.rf.up (by omega) (by omega)).up (by omega) (by omega)⟩) dX2_add_32

set_option maxRecDepth 20000 in
theorem c_X2_resize (l : Launch) (D : va_G) (cA : Nat → ClassId) (n : Nat) (ad : Nat → Nat) (en : Nat → va_E) (sz : Nat) {i m : Nat} {f : Nat → Int} (hi : i + 1 < n) (hr : XR cA ad en i m f) (z1 : Int) (h1 : 0 ≤ z1 ∧ z1 ≤ 200) : Met l yX2_resize (Cond.code yX2_resize cX2_resize 3 none :: xU) (xrm 1 21) (va_Pc [.ref (ad i), .int (xI z1)] (xM D cA n ad en sz)) (va_Qv (fun u => XR cA ad u i z1.toNat (fun t => if t < m then f t else 0) ∧ xO i (i + 2) en u) (xE D n ad) (xA n ad sz)) 0 0 (xA n ad sz) := by
  refine xmet (by decide) (Nat.le_of_ble_eq_true rfl) (fun p e s mm args below meth c ls hx hb hrt hml hown hts hlocks hname hB hl => ?_)
  obtain ⟨⟨hP, hK, hN⟩, hsz, hDt⟩ := hB
  have hD : xD (xA n ad sz) n ad := xD_self hDt sz
  have hA : ∀ q : Nat, s.heap.size ≤ q → xA n ad sz q := fun q h => Or.inr (by rw [← hsz]; exact h)
  have hS : va_S (xA n ad sz) s.heap s.heap [] := va_S.rf
  have hown : s.vm.findClass RX2 = some mm.cls := hown
  have hl : lv_has ls 3 [(0, .ref (ad i)), (1, .int (xI z1))] := hl
  have hm := hr.2.2.1
  refine lv_aload_n hx hb dX2_resize_0 rfl (lv_at hl 0 rfl) ?_
  refine x_get (T := TX2) (N := 2) hx hb hts uX2 hown hK hP (i := i) (by omega) hr.1 rfl 1 (by decide) u_fl_RX2_15 rfl dX2_resize_1 ?_
  refine lv_istore_n (lv' := [(2, .int (xI (m : Int))), (0, .ref (ad i)), (1, .int (xI z1))]) hx hb dX2_resize_4 rfl hl (by decide) rfl (fun ls hl => ?_)
  have L5 : ∀ (nn : Nat) (K : Nat) (F : Nat → Int) (ew5 : Nat → va_E) (H : Heap) (locs : List Loc), (m ≤ K ∧ K ≤ 200 ∧ (m < K → (K : Int) ≤ z1)) → (∀ t : Nat, t < K → F t = if t < m then f t else 0) → ((z1 - K).toNat) < nn → (XR cA ad ew5 i K F) → (xO i (i + 2) en ew5) → va_P D vwCl (xw n ad ew5) H → va_S (xA n ad sz) s.heap H locs → ∀ ls : Array Slot, lv_has ls 3 [(0, .ref (ad i)), (1, .int (xI z1)), (2, .int (xI (K : Int)))] → W p l e (xrm 1 21) s mm args below meth c H locs 0 0 (MQ below (va_Qv (fun u => XR cA ad u i z1.toNat (fun t => if t < m then f t else 0) ∧ xO i (i + 2) en u) (xE D n ad) (xA n ad sz)) args s 0 0 (xA n ad sz)) (F0 mm 5 ls []) := by
    intro nn
    induction nn with
    | zero =>
      intro K F ew5 H locs hk hF hmm hr ho hP hS ls hl
      exact absurd hmm (Nat.not_lt_zero _)
    | succ nn ih =>
      intro K F ew5 H locs hk hF hmm hr ho hP hS ls hl
      refine lv_iload_n hx hb dX2_resize_5 rfl (lv_at hl 2 rfl) ?_
      refine lv_iload_n hx hb dX2_resize_6 rfl (lv_at hl 1 rfl) ?_
      refine x_icmp_ge (tgt := 21) hx hb dX2_resize_7 (by decide) (by omega) (fun c_7 => ?_) (fun c_7 => ?_)
      · refine lv_iload_n hx hb dX2_resize_21 rfl (lv_at hl 1 rfl) ?_
        refine x_if_lt (tgt := 38) hx hb dX2_resize_22 (by decide) (by omega) (fun c_22 => absurd c_22 (by omega)) (fun c_22 => ?_)
        refine lv_iload_n hx hb dX2_resize_25 rfl (lv_at hl 1 rfl) ?_
        refine lv_aload_n hx hb dX2_resize_26 rfl (lv_at hl 0 rfl) ?_
        refine x_get (T := TX2) (N := 2) hx hb hts uX2 hown hK hP (i := i) (by omega) hr.1 rfl 1 (by decide) u_fl_RX2_15 rfl dX2_resize_27 ?_
        refine x_icmp_ge (tgt := 38) hx hb dX2_resize_30 (by decide) (by omega) (fun c_30 => ?_) (fun c_30 => ?_)
        · have e1 : K = z1.toNat := by omega
          exact xe_v hx hb hrt hlocks hP hS (⟨hr.to e1 (fun t ht => hF t (by omega)), ho⟩) dX2_resize_38
        · refine lv_aload_n hx hb dX2_resize_33 rfl (lv_at hl 0 rfl) ?_
          refine lv_iload_n hx hb dX2_resize_34 rfl (lv_at hl 1 rfl) ?_
          refine x_put (T := TX2) (N := 2) (ty := .int) hx hb hts uX2 tyX2 tyX2_ok nmX2 hown hK hP hD hS (i := i) (by omega) hr.1 rfl 1 (by decide) u_fl_RX2_15 rfl (by decide +kernel) rfl rfl (by show 1 < 2; decide) dX2_resize_35 (fun H locs hP hS => ?_)
          have hP : va_P D vwCl (xw n ad (va_up ew5 i (.inr (2, [.ref (ad (i + 1)), .int (xI z1)])))) H := hP
          obtain ⟨en1, he1⟩ : ∃ z, z = va_up ew5 i (.inr (2, [.ref (ad (i + 1)), .int (xI z1)])) := ⟨_, rfl⟩
          rw [← he1] at hP
          have ho1 : en1 i = (.inr (2, [.ref (ad (i + 1)), .int (xI z1)])) := by rw [he1, va_up_self]
          subst he1
          exact xe_v hx hb hrt hlocks hP hS (⟨(hr.sz (m' := z1.toNat) (by omega) (by omega)).to rfl (fun t ht => hF t (by omega)), ho.up (by omega) (by omega)⟩) dX2_resize_38
      · refine lv_aload_n hx hb dX2_resize_10 rfl (lv_at hl 0 rfl) ?_
        refine x_iconst hx hb dX2_resize_11 ?_
        refine xm_v (i := i) (As := [.int (xI 0)]) (rest := []) ⟨hx, hb, hml, hown, hts⟩ hl.1 (c_X2_add l D cA n ad ew5 _ (by omega) hr (by omega) 0 (by omega)) k_X2_add u_ml_RX2_31 hK hN hP (by omega) hr.1 rfl rfl rfl rfl (Nat.le_of_ble_eq_true rfl) ⟨Nat.le_of_ble_eq_true rfl, Nat.le_of_ble_eq_true rfl⟩ ⟨Nat.le_of_ble_eq_true rfl, Nat.le_of_ble_eq_true rfl⟩ dX2_resize_12 hD hS hA (fun en2 H locs hp2 hP hS => ?_)
        obtain ⟨hr, hp2w⟩ := hp2
        have ho := ho.tr hp2w
        refine x_iinc (lv' := [(2, .int (xI ((K : Int) + 1))), (0, .ref (ad i)), (1, .int (xI z1))]) (k := 2) hx hb dX2_resize_15 hl rfl (by decide) rfl (fun ls hl => ?_)
        refine lv_goto (tgt := 5) hx hb dX2_resize_18 (by decide) ?_
        exact ih (K + 1) _ en2 _ _ (⟨by omega, by omega, fun _ => by omega⟩) (fun t ht => by
        by_cases e : t = K
        · subst e
          rw [sp_up_s, if_neg (by omega)]
        · rw [sp_up_n _ _ e]
          exact hF t (by omega)) (by omega) hr ho hP hS ls (lv_sub hl [1, 2, 0] rfl)
  exact L5 _ m f en _ _ (⟨Nat.le_refl _, hm, fun q => by omega⟩) (fun t ht => by rw [if_pos ht]) (Nat.lt_succ_self _) hr xO.rf hP hS ls (lv_sub hl [1, 2, 0] rfl)

set_option maxRecDepth 20000 in
theorem c_X2_copy_a (l : Launch) (D : va_G) (cA : Nat → ClassId) (n : Nat) (ad : Nat → Nat) (en : Nat → va_E) (sz : Nat) {i m : Nat} {f : Nat → Int} (hi : i + 1 < n) (hr : XR cA ad en i m f) {j k : Nat} {h : Nat → Int} (hj : j + 1 < n) (hq : XR cA ad en j k h) (hij : j + 1 < i ∨ i + 1 < j) (z1 z2 : Int) (hz1 : -2147483648 ≤ z1 ∧ z1 ≤ 2147483647) (hz2 : -2147483648 ≤ z2 ∧ z2 ≤ 2147483647) : Met l yX2_copy (Cond.code yX2_copy cX2_copy 4 (some .int) :: xU) (xrm 1 26) (va_Pc [.ref (ad i), .ref (ad j), .int (xI z1), .int (xI z2)] (xM D cA n ad en sz)) (va_Qi (fun r u => ((0 ≤ z1 ∧ z1 ≤ z2 ∧ z2 ≤ (k : Int)) ∧ r = xI (z2 - z1) ∧ XR cA ad u i (z2 - z1).toNat (fun t => h (z1.toNat + t)) ∧ xO i (i + 2) en u) ∨ (¬ (0 ≤ z1 ∧ z1 ≤ z2 ∧ z2 ≤ (k : Int)) ∧ r = xI (-1005) ∧ u = en)) (xE D n ad) (xA n ad sz)) 0 0 (xA n ad sz) := by
  refine xmet (by decide) (Nat.le_of_ble_eq_true rfl) (fun p e s mm args below meth c ls hx hb hrt hml hown hts hlocks hname hB hl => ?_)
  obtain ⟨⟨hP, hK, hN⟩, hsz, hDt⟩ := hB
  have hD : xD (xA n ad sz) n ad := xD_self hDt sz
  have hA : ∀ q : Nat, s.heap.size ≤ q → xA n ad sz q := fun q h => Or.inr (by rw [← hsz]; exact h)
  have hS : va_S (xA n ad sz) s.heap s.heap [] := va_S.rf
  have hown : s.vm.findClass RX2 = some mm.cls := hown
  have hl : lv_has ls 4 [(0, .ref (ad i)), (1, .ref (ad j)), (2, .int (xI z1)), (3, .int (xI z2))] := hl
  have hm := hr.2.2.1
  have hm2 := hq.2.2.1
  obtain ⟨w, hw1, hw2⟩ := hr.2.1
  obtain ⟨g, hg1, hg2⟩ := hq.2.1
  refine lv_aload_n hx hb dX2_copy_0 rfl (lv_at hl 1 rfl) ?_
  refine lv_iload_n hx hb dX2_copy_1 rfl (lv_at hl 2 rfl) ?_
  refine lv_iload_n hx hb dX2_copy_2 rfl (lv_at hl 3 rfl) ?_
  refine xv_i (i := j) (As := [.int (xI z1), .int (xI z2)]) (rest := []) ⟨hx, hb, hml, hown, hts⟩ hl.1 (c_X2_spans l D cA n ad en (by omega) hq z1 z2 (by omega) (by omega)) k_X2_spans u_ml_RX2_35 hK hN hP (by omega) hq.1 rfl rfl rfl rfl (Nat.le_of_ble_eq_true rfl) ⟨Nat.le_of_ble_eq_true rfl, Nat.le_of_ble_eq_true rfl⟩ ⟨Nat.le_of_ble_eq_true rfl, Nat.le_of_ble_eq_true rfl⟩ dX2_copy_3 ?_
  refine x_ifb_ne (tgt := 13) hx hb dX2_copy_6 (by decide)  (fun c_6 => ?_) (fun c_6 => ?_)
  · refine lv_aload_n hx hb dX2_copy_13 rfl (lv_at hl 1 rfl) ?_
    refine x_get (T := TX2) (N := 2) hx hb hts uX2 hown hK hP (i := j) (by omega) hq.1 rfl 0 (by decide) u_fl_RX2_9 rfl dX2_copy_14 ?_
    refine lv_iload_n hx hb dX2_copy_17 rfl (lv_at hl 2 rfl) ?_
    refine lv_aload_n hx hb dX2_copy_18 rfl (lv_at hl 0 rfl) ?_
    refine x_get (T := TX2) (N := 2) hx hb hts uX2 hown hK hP (i := i) (by omega) hr.1 rfl 0 (by decide) u_fl_RX2_9 rfl dX2_copy_19 ?_
    refine x_iconst hx hb dX2_copy_22 ?_
    refine lv_iload_n hx hb dX2_copy_23 rfl (lv_at hl 3 rfl) ?_
    refine lv_iload_n hx hb dX2_copy_24 rfl (lv_at hl 2 rfl) ?_
    refine x_isub hx hb dX2_copy_25 ?_
    refine x_copy hx hb (hml.trans hl.1.symm) hts hown u_ml_RX2_39 hK hP hD hS (i := j + 1) (j := i + 1) (by omega) (by omega) hg1 hw1 (by omega) (Nat.le_of_ble_eq_true rfl) (by first | exact Nat.le_of_ble_eq_true rfl | decide) dX2_copy_26 (fun H locs hP hS => ?_)
    have hP : va_P D vwCl (xw n ad (va_up en (i + 1) (.inl (cA 0, 200, .inl (va_cpy g w (Int.toNat z1) (Int.toNat 0) (Int.toNat (z2 - z1))))))) H := hP
    obtain ⟨en1, he1⟩ : ∃ z, z = va_up en (i + 1) (.inl (cA 0, 200, .inl (va_cpy g w (Int.toNat z1) (Int.toNat 0) (Int.toNat (z2 - z1))))) := ⟨_, rfl⟩
    rw [← he1] at hP
    have ho1 : en1 (i + 1) = (.inl (cA 0, 200, .inl (va_cpy g w (Int.toNat z1) (Int.toNat 0) (Int.toNat (z2 - z1))))) := by rw [he1, va_up_self]
    have hk2 := (show en1 i = en i from by rw [he1, va_up_ne _ _ (by omega)]).trans hr.1
    have hk3 := (show en1 j = en j from by rw [he1, va_up_ne _ _ (by omega)]).trans hq.1
    have hk4 := (show en1 (j + 1) = en (j + 1) from by rw [he1, va_up_ne _ _ (by omega)]).trans hg1
    refine lv_aload_n hx hb dX2_copy_29 rfl (lv_at hl 0 rfl) ?_
    refine lv_iload_n hx hb dX2_copy_30 rfl (lv_at hl 3 rfl) ?_
    refine lv_iload_n hx hb dX2_copy_31 rfl (lv_at hl 2 rfl) ?_
    refine x_isub hx hb dX2_copy_32 ?_
    refine x_put (T := TX2) (N := 2) (ty := .int) hx hb hts uX2 tyX2 tyX2_ok nmX2 hown hK hP hD hS (i := i) (by omega) hk2 rfl 1 (by decide) u_fl_RX2_15 rfl (by decide +kernel) rfl rfl (by show 1 < 2; decide) dX2_copy_33 (fun H locs hP hS => ?_)
    have hP : va_P D vwCl (xw n ad (va_up en1 i (.inr (2, [.ref (ad (i + 1)), .int (xI (z2 - z1))])))) H := hP
    obtain ⟨en5, he5⟩ : ∃ z, z = va_up en1 i (.inr (2, [.ref (ad (i + 1)), .int (xI (z2 - z1))])) := ⟨_, rfl⟩
    rw [← he5] at hP
    have ho5 : en5 i = (.inr (2, [.ref (ad (i + 1)), .int (xI (z2 - z1))])) := by rw [he5, va_up_self]
    have hk6 := (show en5 j = en1 j from by rw [he5, va_up_ne _ _ (by omega)]).trans hk3
    have hk7 := (show en5 (i + 1) = en1 (i + 1) from by rw [he5, va_up_ne _ _ (by omega)]).trans ho1
    have hk8 := (show en5 (j + 1) = en1 (j + 1) from by rw [he5, va_up_ne _ _ (by omega)]).trans hk4
    refine lv_aload_n hx hb dX2_copy_36 rfl (lv_at hl 0 rfl) ?_
    refine x_get (T := TX2) (N := 2) hx hb hts uX2 hown hK hP (i := i) (by omega) ho5 rfl 1 (by decide) u_fl_RX2_15 rfl dX2_copy_37 ?_
    subst he5
    subst he1
    exact xe_i hx hb hrt hlocks hP hS (Or.inl ⟨c_6, rfl, XR.mk _ (va_up_self _ _ _) (by omega) (by rw [va_up_ne _ _ (by omega)]; exact va_up_self _ _ _) (fun t ht => by
      simp only [va_cpy]
      rw [if_pos (by omega)]
      have := hg2 (z1.toNat + t) (by omega)
      rw [show (Int.toNat z1) + (t - Int.toNat 0) = z1.toNat + t by omega]
      exact this) (by omega) (fun t ht => hq.2.2.2 _ (by omega)), (xO.rf.up (by omega) (by omega)).up (by omega) (by omega)⟩) dX2_copy_40
  · refine x_sipush hx hb dX2_copy_9 (by decide +kernel) ?_
    exact xe_i hx hb hrt hlocks hP hS (Or.inr ⟨c_6, rfl, rfl⟩) dX2_copy_12

set_option maxRecDepth 20000 in
theorem c_X2_copy_s (l : Launch) (D : va_G) (cA : Nat → ClassId) (n : Nat) (ad : Nat → Nat) (en : Nat → va_E) (sz : Nat) {i k : Nat} {h : Nat → Int} (hi : i + 1 < n) (hq : XR cA ad en i k h) (z1 z2 : Int) (hz1 : -2147483648 ≤ z1 ∧ z1 ≤ 2147483647) (hz2 : -2147483648 ≤ z2 ∧ z2 ≤ 2147483647) : Met l yX2_copy (Cond.code yX2_copy cX2_copy 4 (some .int) :: xU) (xrm 1 26) (va_Pc [.ref (ad i), .ref (ad i), .int (xI z1), .int (xI z2)] (xM D cA n ad en sz)) (va_Qi (fun r u => ((0 ≤ z1 ∧ z1 ≤ z2 ∧ z2 ≤ (k : Int)) ∧ r = xI (z2 - z1) ∧ XR cA ad u i (z2 - z1).toNat (fun t => h (z1.toNat + t)) ∧ xO i (i + 2) en u) ∨ (¬ (0 ≤ z1 ∧ z1 ≤ z2 ∧ z2 ≤ (k : Int)) ∧ r = xI (-1005) ∧ u = en)) (xE D n ad) (xA n ad sz)) 0 0 (xA n ad sz) := by
  refine xmet (by decide) (Nat.le_of_ble_eq_true rfl) (fun p e s mm args below meth c ls hx hb hrt hml hown hts hlocks hname hB hl => ?_)
  obtain ⟨⟨hP, hK, hN⟩, hsz, hDt⟩ := hB
  have hD : xD (xA n ad sz) n ad := xD_self hDt sz
  have hA : ∀ q : Nat, s.heap.size ≤ q → xA n ad sz q := fun q h => Or.inr (by rw [← hsz]; exact h)
  have hS : va_S (xA n ad sz) s.heap s.heap [] := va_S.rf
  have hown : s.vm.findClass RX2 = some mm.cls := hown
  have hl : lv_has ls 4 [(0, .ref (ad i)), (1, .ref (ad i)), (2, .int (xI z1)), (3, .int (xI z2))] := hl
  have hm2 := hq.2.2.1
  obtain ⟨g, hg1, hg2⟩ := hq.2.1
  refine lv_aload_n hx hb dX2_copy_0 rfl (lv_at hl 1 rfl) ?_
  refine lv_iload_n hx hb dX2_copy_1 rfl (lv_at hl 2 rfl) ?_
  refine lv_iload_n hx hb dX2_copy_2 rfl (lv_at hl 3 rfl) ?_
  refine xv_i (i := i) (As := [.int (xI z1), .int (xI z2)]) (rest := []) ⟨hx, hb, hml, hown, hts⟩ hl.1 (c_X2_spans l D cA n ad en (by omega) hq z1 z2 (by omega) (by omega)) k_X2_spans u_ml_RX2_35 hK hN hP (by omega) hq.1 rfl rfl rfl rfl (Nat.le_of_ble_eq_true rfl) ⟨Nat.le_of_ble_eq_true rfl, Nat.le_of_ble_eq_true rfl⟩ ⟨Nat.le_of_ble_eq_true rfl, Nat.le_of_ble_eq_true rfl⟩ dX2_copy_3 ?_
  refine x_ifb_ne (tgt := 13) hx hb dX2_copy_6 (by decide)  (fun c_6 => ?_) (fun c_6 => ?_)
  · refine lv_aload_n hx hb dX2_copy_13 rfl (lv_at hl 1 rfl) ?_
    refine x_get (T := TX2) (N := 2) hx hb hts uX2 hown hK hP (i := i) (by omega) hq.1 rfl 0 (by decide) u_fl_RX2_9 rfl dX2_copy_14 ?_
    refine lv_iload_n hx hb dX2_copy_17 rfl (lv_at hl 2 rfl) ?_
    refine lv_aload_n hx hb dX2_copy_18 rfl (lv_at hl 0 rfl) ?_
    refine x_get (T := TX2) (N := 2) hx hb hts uX2 hown hK hP (i := i) (by omega) hq.1 rfl 0 (by decide) u_fl_RX2_9 rfl dX2_copy_19 ?_
    refine x_iconst hx hb dX2_copy_22 ?_
    refine lv_iload_n hx hb dX2_copy_23 rfl (lv_at hl 3 rfl) ?_
    refine lv_iload_n hx hb dX2_copy_24 rfl (lv_at hl 2 rfl) ?_
    refine x_isub hx hb dX2_copy_25 ?_
    refine x_copy hx hb (hml.trans hl.1.symm) hts hown u_ml_RX2_39 hK hP hD hS (i := i + 1) (j := i + 1) (by omega) (by omega) hg1 hg1 (by omega) (Nat.le_of_ble_eq_true rfl) (by first | exact Nat.le_of_ble_eq_true rfl | decide) dX2_copy_26 (fun H locs hP hS => ?_)
    have hP : va_P D vwCl (xw n ad (va_up en (i + 1) (.inl (cA 0, 200, .inl (va_cpy g g (Int.toNat z1) (Int.toNat 0) (Int.toNat (z2 - z1))))))) H := hP
    obtain ⟨en1, he1⟩ : ∃ z, z = va_up en (i + 1) (.inl (cA 0, 200, .inl (va_cpy g g (Int.toNat z1) (Int.toNat 0) (Int.toNat (z2 - z1))))) := ⟨_, rfl⟩
    rw [← he1] at hP
    have ho1 : en1 (i + 1) = (.inl (cA 0, 200, .inl (va_cpy g g (Int.toNat z1) (Int.toNat 0) (Int.toNat (z2 - z1))))) := by rw [he1, va_up_self]
    have hk2 := (show en1 i = en i from by rw [he1, va_up_ne _ _ (by omega)]).trans hq.1
    refine lv_aload_n hx hb dX2_copy_29 rfl (lv_at hl 0 rfl) ?_
    refine lv_iload_n hx hb dX2_copy_30 rfl (lv_at hl 3 rfl) ?_
    refine lv_iload_n hx hb dX2_copy_31 rfl (lv_at hl 2 rfl) ?_
    refine x_isub hx hb dX2_copy_32 ?_
    refine x_put (T := TX2) (N := 2) (ty := .int) hx hb hts uX2 tyX2 tyX2_ok nmX2 hown hK hP hD hS (i := i) (by omega) hk2 rfl 1 (by decide) u_fl_RX2_15 rfl (by decide +kernel) rfl rfl (by show 1 < 2; decide) dX2_copy_33 (fun H locs hP hS => ?_)
    have hP : va_P D vwCl (xw n ad (va_up en1 i (.inr (2, [.ref (ad (i + 1)), .int (xI (z2 - z1))])))) H := hP
    obtain ⟨en3, he3⟩ : ∃ z, z = va_up en1 i (.inr (2, [.ref (ad (i + 1)), .int (xI (z2 - z1))])) := ⟨_, rfl⟩
    rw [← he3] at hP
    have ho3 : en3 i = (.inr (2, [.ref (ad (i + 1)), .int (xI (z2 - z1))])) := by rw [he3, va_up_self]
    have hk4 := (show en3 (i + 1) = en1 (i + 1) from by rw [he3, va_up_ne _ _ (by omega)]).trans ho1
    refine lv_aload_n hx hb dX2_copy_36 rfl (lv_at hl 0 rfl) ?_
    refine x_get (T := TX2) (N := 2) hx hb hts uX2 hown hK hP (i := i) (by omega) ho3 rfl 1 (by decide) u_fl_RX2_15 rfl dX2_copy_37 ?_
    subst he3
    subst he1
    exact xe_i hx hb hrt hlocks hP hS (Or.inl ⟨c_6, rfl, XR.mk _ (va_up_self _ _ _) (by omega) (by rw [va_up_ne _ _ (by omega)]; exact va_up_self _ _ _) (fun t ht => by
      simp only [va_cpy]
      rw [if_pos (by omega)]
      have := hg2 (z1.toNat + t) (by omega)
      rw [show (Int.toNat z1) + (t - Int.toNat 0) = z1.toNat + t by omega]
      exact this) (by omega) (fun t ht => hq.2.2.2 _ (by omega)), (xO.rf.up (by omega) (by omega)).up (by omega) (by omega)⟩) dX2_copy_40
  · refine x_sipush hx hb dX2_copy_9 (by decide +kernel) ?_
    exact xe_i hx hb hrt hlocks hP hS (Or.inr ⟨c_6, rfl, rfl⟩) dX2_copy_12

/-- copy, also of a row's own signs -/
theorem c_X2_copy (l : Launch) (D : va_G) (cA : Nat → ClassId) (n : Nat) (ad : Nat → Nat) (en : Nat → va_E) (sz : Nat) {i m : Nat} {f : Nat → Int} (hi : i + 1 < n) (hr : XR cA ad en i m f) {j k : Nat} {h : Nat → Int} (hj : j + 1 < n) (hq : XR cA ad en j k h) (hij : j = i ∨ j + 1 < i ∨ i + 1 < j) (z1 z2 : Int) (hz1 : -2147483648 ≤ z1 ∧ z1 ≤ 2147483647) (hz2 : -2147483648 ≤ z2 ∧ z2 ≤ 2147483647) : Met l yX2_copy (Cond.code yX2_copy cX2_copy 4 (some .int) :: xU) (xrm 1 26) (va_Pc [.ref (ad i), .ref (ad j), .int (xI z1), .int (xI z2)] (xM D cA n ad en sz)) (va_Qi (fun r u => ((0 ≤ z1 ∧ z1 ≤ z2 ∧ z2 ≤ (k : Int)) ∧ r = xI (z2 - z1) ∧ XR cA ad u i (z2 - z1).toNat (fun t => h (z1.toNat + t)) ∧ xO i (i + 2) en u) ∨ (¬ (0 ≤ z1 ∧ z1 ≤ z2 ∧ z2 ≤ (k : Int)) ∧ r = xI (-1005) ∧ u = en)) (xE D n ad) (xA n ad sz)) 0 0 (xA n ad sz) := by
  rcases hij with e | e
  · subst e
    exact c_X2_copy_s l D cA n ad en sz hi hq z1 z2 hz1 hz2
  · exact c_X2_copy_a l D cA n ad en sz hi hr hj hq e z1 z2 hz1 hz2
end
section
theorem sp_ed_cpy {g w : Nat → Int32} {f h : Nat → Int} {m k a b st len : Nat} (hg : ∀ t : Nat, t < m → g t = xI (f t)) (hw : ∀ t : Nat, t < k → w t = xI (h t)) (hab : a ≤ b) (hb : b ≤ m) (hl : st + len ≤ k) (t : Nat) (ht : t < m - (b - a) + len) : va_cpy w (va_cpy g g b (a + len) (m - b)) st a len t = xI (sp_ed f a b h st len t) := by
  simp only [va_cpy, sp_ed]
  by_cases h1 : t < a
  · rw [if_neg (by omega), if_neg (by omega), if_pos h1]
    exact hg t (by omega)
  · by_cases h2 : t < a + len
    · rw [if_pos (by omega), if_neg h1, if_pos h2]
      exact hw _ (by omega)
    · rw [if_neg (by omega), if_pos (by omega), if_neg h1, if_neg h2, Nat.add_comm b]
      exact hg _ (by omega)
theorem sp_ed_b {f h : Nat → Int} {m k a b st len : Nat} (hf : ∀ t : Nat, t < m → 0 ≤ f t ∧ f t ≤ 255) (hh : ∀ t : Nat, t < k → 0 ≤ h t ∧ h t ≤ 255) (hab : a ≤ b) (hb : b ≤ m) (hl : st + len ≤ k) (t : Nat) (ht : t < m - (b - a) + len) : 0 ≤ sp_ed f a b h st len t ∧ sp_ed f a b h st len t ≤ 255 := by
  simp only [sp_ed]
  by_cases h1 : t < a
  · rw [if_pos h1]
    exact hf t (by omega)
  · by_cases h2 : t < a + len
    · rw [if_neg h1, if_pos h2]
      exact hh _ (by omega)
    · rw [if_neg h1, if_neg h2]
      exact hf _ (by omega)
theorem sp_rg_st {f h : Nat → Int} {m k : Nat} {a : Int} : sp_rg f m a h k 0 (k : Int) ↔ sp_st f m h k a := by
  constructor
  · intro q
    refine ⟨q.1.1, q.1.2.2.1, fun t ht => ?_⟩
    have := q.2 t (by omega)
    rw [show Int.toNat 0 + t = t from Nat.zero_add t] at this
    exact this
  · intro q
    refine ⟨⟨q.1, by omega, q.2.1, by omega⟩, fun t ht => ?_⟩
    rw [show Int.toNat 0 + t = t from Nat.zero_add t]
    exact q.2.2 t (by omega)

set_option maxRecDepth 20000 in
theorem c_X2_change (l : Launch) (D : va_G) (cA : Nat → ClassId) (n : Nat) (ad : Nat → Nat) (en : Nat → va_E) (sz : Nat) {i m : Nat} {f : Nat → Int} (hi : i + 1 < n) (hr : XR cA ad en i m f) {j k : Nat} {h : Nat → Int} (hj : j + 1 < n) (hq : XR cA ad en j k h) (hij : j + 1 < i ∨ i + 1 < j) (z1 z2 z3 z4 : Int) (hz1 : -2147483648 ≤ z1 ∧ z1 ≤ 2147483647) (hz2 : -2147483648 ≤ z2 ∧ z2 ≤ 2147483647) (hz3 : -2147483648 ≤ z3 ∧ z3 ≤ 2147483647) (hz4 : -2147483648 ≤ z4 ∧ z4 ≤ 2147483647) : Met l yX2_change (Cond.code yX2_change cX2_change 8 (some .int) :: xU) (xrm 1 26) (va_Pc [.ref (ad i), .int (xI z1), .int (xI z2), .ref (ad j), .int (xI z3), .int (xI z4)] (xM D cA n ad en sz)) (va_Qi (fun r u => (¬ ((0 ≤ z1 ∧ z1 ≤ z2 ∧ z2 ≤ (m : Int)) ∧ 0 ≤ z3 ∧ z3 ≤ z4 ∧ z4 ≤ (k : Int)) ∧ r = xI (-1005) ∧ u = en) ∨ (((0 ≤ z1 ∧ z1 ≤ z2 ∧ z2 ≤ (m : Int)) ∧ 0 ≤ z3 ∧ z3 ≤ z4 ∧ z4 ≤ (k : Int)) ∧ 200 < (m : Int) - (z2 - z1) + (z4 - z3) ∧ r = xI (-1007) ∧ u = en) ∨ (((0 ≤ z1 ∧ z1 ≤ z2 ∧ z2 ≤ (m : Int)) ∧ 0 ≤ z3 ∧ z3 ≤ z4 ∧ z4 ≤ (k : Int)) ∧ (m : Int) - (z2 - z1) + (z4 - z3) ≤ 200 ∧ r = xI ((m : Int) - (z2 - z1) + (z4 - z3)) ∧ XR cA ad u i (Int.toNat ((m : Int) - (z2 - z1) + (z4 - z3))) (sp_ed f (Int.toNat z1) (Int.toNat z2) h (Int.toNat z3) (Int.toNat (z4 - z3))) ∧ xO i (i + 2) en u)) (xE D n ad) (xA n ad sz)) 0 0 (xA n ad sz) := by
  refine xmet (by decide) (Nat.le_of_ble_eq_true rfl) (fun p e s mm args below meth c ls hx hb hrt hml hown hts hlocks hname hB hl => ?_)
  obtain ⟨⟨hP, hK, hN⟩, hsz, hDt⟩ := hB
  have hD : xD (xA n ad sz) n ad := xD_self hDt sz
  have hA : ∀ q : Nat, s.heap.size ≤ q → xA n ad sz q := fun q h => Or.inr (by rw [← hsz]; exact h)
  have hS : va_S (xA n ad sz) s.heap s.heap [] := va_S.rf
  have hown : s.vm.findClass RX2 = some mm.cls := hown
  have hl : lv_has ls 8 [(0, .ref (ad i)), (1, .int (xI z1)), (2, .int (xI z2)), (3, .ref (ad j)), (4, .int (xI z3)), (5, .int (xI z4))] := hl
  have hm := hr.2.2.1
  have hm2 := hq.2.2.1
  obtain ⟨g, hg1, hg2⟩ := hr.2.1
  obtain ⟨w, hw1, hw2⟩ := hq.2.1
  refine lv_aload_n hx hb dX2_change_0 rfl (lv_at hl 0 rfl) ?_
  refine lv_iload_n hx hb dX2_change_1 rfl (lv_at hl 1 rfl) ?_
  refine lv_iload_n hx hb dX2_change_2 rfl (lv_at hl 2 rfl) ?_
  refine xv_i (i := i) (As := [.int (xI z1), .int (xI z2)]) (rest := []) ⟨hx, hb, hml, hown, hts⟩ hl.1 (c_X2_spans l D cA n ad en (by omega) hr z1 z2 (by omega) (by omega)) k_X2_spans u_ml_RX2_35 hK hN hP (by omega) hr.1 rfl rfl rfl rfl (Nat.le_of_ble_eq_true rfl) ⟨Nat.le_of_ble_eq_true rfl, Nat.le_of_ble_eq_true rfl⟩ ⟨Nat.le_of_ble_eq_true rfl, Nat.le_of_ble_eq_true rfl⟩ dX2_change_3 ?_
  refine x_ifb_eq (tgt := 20) hx hb dX2_change_6 (by decide)  (fun c_6 => ?_) (fun c_6 => ?_)
  · refine x_sipush hx hb dX2_change_20 (by decide +kernel) ?_
    exact xe_i hx hb hrt hlocks hP hS (Or.inl ⟨fun q => c_6 q.1, rfl, rfl⟩) dX2_change_23
  · refine lv_aload_n hx hb dX2_change_9 rfl (lv_at hl 3 rfl) ?_
    refine lv_iload hx hb dX2_change_10 (lv_at hl 4 rfl) ?_
    refine lv_iload hx hb dX2_change_12 (lv_at hl 5 rfl) ?_
    refine xv_i (i := j) (As := [.int (xI z3), .int (xI z4)]) (rest := []) ⟨hx, hb, hml, hown, hts⟩ hl.1 (c_X2_spans l D cA n ad en (by omega) hq z3 z4 (by omega) (by omega)) k_X2_spans u_ml_RX2_35 hK hN hP (by omega) hq.1 rfl rfl rfl rfl (Nat.le_of_ble_eq_true rfl) ⟨Nat.le_of_ble_eq_true rfl, Nat.le_of_ble_eq_true rfl⟩ ⟨Nat.le_of_ble_eq_true rfl, Nat.le_of_ble_eq_true rfl⟩ dX2_change_14 ?_
    refine x_ifb_ne (tgt := 24) hx hb dX2_change_17 (by decide)  (fun c_17 => ?_) (fun c_17 => ?_)
    · refine lv_iload hx hb dX2_change_24 (lv_at hl 5 rfl) ?_
      refine lv_iload hx hb dX2_change_26 (lv_at hl 4 rfl) ?_
      refine x_isub hx hb dX2_change_28 ?_
      refine lv_istore (lv' := [(6, .int (xI (z4 - z3))), (0, .ref (ad i)), (1, .int (xI z1)), (2, .int (xI z2)), (3, .ref (ad j)), (4, .int (xI z3)), (5, .int (xI z4))]) hx hb dX2_change_29 hl (by decide) rfl (fun ls hl => ?_)
      refine lv_aload_n hx hb dX2_change_31 rfl (lv_at hl 1 rfl) ?_
      refine x_get (T := TX2) (N := 2) hx hb hts uX2 hown hK hP (i := i) (by omega) hr.1 rfl 1 (by decide) u_fl_RX2_15 rfl dX2_change_32 ?_
      refine lv_iload_n hx hb dX2_change_35 rfl (lv_at hl 3 rfl) ?_
      refine lv_iload_n hx hb dX2_change_36 rfl (lv_at hl 2 rfl) ?_
      refine x_isub hx hb dX2_change_37 ?_
      refine x_isub hx hb dX2_change_38 ?_
      refine lv_iload hx hb dX2_change_39 (lv_at hl 0 rfl) ?_
      refine x_iadd hx hb dX2_change_41 ?_
      refine lv_istore (lv' := [(7, .int (xI (((m : Int) - (z2 - z1)) + (z4 - z3)))), (6, .int (xI (z4 - z3))), (0, .ref (ad i)), (1, .int (xI z1)), (2, .int (xI z2)), (3, .ref (ad j)), (4, .int (xI z3)), (5, .int (xI z4))]) hx hb dX2_change_42 hl (by decide) rfl (fun ls hl => ?_)
      refine lv_iload hx hb dX2_change_44 (lv_at hl 0 rfl) ?_
      refine lv_aload_n hx hb dX2_change_46 rfl (lv_at hl 2 rfl) ?_
      refine x_get (T := TX2) (N := 2) hx hb hts uX2 hown hK hP (i := i) (by omega) hr.1 rfl 0 (by decide) u_fl_RX2_9 rfl dX2_change_47 ?_
      refine x_alen hx hb hK hP (i := i + 1) (by omega) 0 hg1 rfl dX2_change_50 ?_
      refine x_icmp_le (tgt := 58) hx hb dX2_change_51 (by decide) (by omega) (fun c_51 => ?_) (fun c_51 => ?_)
      · refine lv_aload_n hx hb dX2_change_58 rfl (lv_at hl 2 rfl) ?_
        refine x_get (T := TX2) (N := 2) hx hb hts uX2 hown hK hP (i := i) (by omega) hr.1 rfl 0 (by decide) u_fl_RX2_9 rfl dX2_change_59 ?_
        refine lv_iload_n hx hb dX2_change_62 rfl (lv_at hl 4 rfl) ?_
        refine lv_aload_n hx hb dX2_change_63 rfl (lv_at hl 2 rfl) ?_
        refine x_get (T := TX2) (N := 2) hx hb hts uX2 hown hK hP (i := i) (by omega) hr.1 rfl 0 (by decide) u_fl_RX2_9 rfl dX2_change_64 ?_
        refine lv_iload_n hx hb dX2_change_67 rfl (lv_at hl 3 rfl) ?_
        refine lv_iload hx hb dX2_change_68 (lv_at hl 1 rfl) ?_
        refine x_iadd hx hb dX2_change_70 ?_
        refine lv_aload_n hx hb dX2_change_71 rfl (lv_at hl 2 rfl) ?_
        refine x_get (T := TX2) (N := 2) hx hb hts uX2 hown hK hP (i := i) (by omega) hr.1 rfl 1 (by decide) u_fl_RX2_15 rfl dX2_change_72 ?_
        refine lv_iload_n hx hb dX2_change_75 rfl (lv_at hl 4 rfl) ?_
        refine x_isub hx hb dX2_change_76 ?_
        refine x_copy hx hb (hml.trans hl.1.symm) hts hown u_ml_RX2_39 hK hP hD hS (i := i + 1) (j := i + 1) (by omega) (by omega) hg1 hg1 (by omega) (Nat.le_of_ble_eq_true rfl) (by first | exact Nat.le_of_ble_eq_true rfl | decide) dX2_change_77 (fun H locs hP hS => ?_)
        have hP : va_P D vwCl (xw n ad (va_up en (i + 1) (.inl (cA 0, 200, .inl (va_cpy g g (Int.toNat z2) (Int.toNat (z1 + (z4 - z3))) (Int.toNat ((m : Int) - z2))))))) H := hP
        obtain ⟨en1, he1⟩ : ∃ z, z = va_up en (i + 1) (.inl (cA 0, 200, .inl (va_cpy g g (Int.toNat z2) (Int.toNat (z1 + (z4 - z3))) (Int.toNat ((m : Int) - z2))))) := ⟨_, rfl⟩
        rw [← he1] at hP
        have ho1 : en1 (i + 1) = (.inl (cA 0, 200, .inl (va_cpy g g (Int.toNat z2) (Int.toNat (z1 + (z4 - z3))) (Int.toNat ((m : Int) - z2))))) := by rw [he1, va_up_self]
        have hk2 := (show en1 i = en i from by rw [he1, va_up_ne _ _ (by omega)]).trans hr.1
        have hk3 := (show en1 j = en j from by rw [he1, va_up_ne _ _ (by omega)]).trans hq.1
        have hk4 := (show en1 (j + 1) = en (j + 1) from by rw [he1, va_up_ne _ _ (by omega)]).trans hw1
        refine lv_aload_n hx hb dX2_change_80 rfl (lv_at hl 5 rfl) ?_
        refine x_get (T := TX2) (N := 2) hx hb hts uX2 hown hK hP (i := j) (by omega) hk3 rfl 0 (by decide) u_fl_RX2_9 rfl dX2_change_81 ?_
        refine lv_iload hx hb dX2_change_84 (lv_at hl 6 rfl) ?_
        refine lv_aload_n hx hb dX2_change_86 rfl (lv_at hl 2 rfl) ?_
        refine x_get (T := TX2) (N := 2) hx hb hts uX2 hown hK hP (i := i) (by omega) hk2 rfl 0 (by decide) u_fl_RX2_9 rfl dX2_change_87 ?_
        refine lv_iload_n hx hb dX2_change_90 rfl (lv_at hl 3 rfl) ?_
        refine lv_iload hx hb dX2_change_91 (lv_at hl 1 rfl) ?_
        refine x_copy hx hb (hml.trans hl.1.symm) hts hown u_ml_RX2_39 hK hP hD hS (i := j + 1) (j := i + 1) (by omega) (by omega) hk4 ho1 (by omega) (Nat.le_of_ble_eq_true rfl) (by first | exact Nat.le_of_ble_eq_true rfl | decide) dX2_change_93 (fun H locs hP hS => ?_)
        have hP : va_P D vwCl (xw n ad (va_up en1 (i + 1) (.inl (cA 0, 200, .inl (va_cpy w (va_cpy g g (Int.toNat z2) (Int.toNat (z1 + (z4 - z3))) (Int.toNat ((m : Int) - z2))) (Int.toNat z3) (Int.toNat z1) (Int.toNat (z4 - z3))))))) H := hP
        obtain ⟨en5, he5⟩ : ∃ z, z = va_up en1 (i + 1) (.inl (cA 0, 200, .inl (va_cpy w (va_cpy g g (Int.toNat z2) (Int.toNat (z1 + (z4 - z3))) (Int.toNat ((m : Int) - z2))) (Int.toNat z3) (Int.toNat z1) (Int.toNat (z4 - z3))))) := ⟨_, rfl⟩
        rw [← he5] at hP
        have ho5 : en5 (i + 1) = (.inl (cA 0, 200, .inl (va_cpy w (va_cpy g g (Int.toNat z2) (Int.toNat (z1 + (z4 - z3))) (Int.toNat ((m : Int) - z2))) (Int.toNat z3) (Int.toNat z1) (Int.toNat (z4 - z3))))) := by rw [he5, va_up_self]
        have hk6 := (show en5 i = en1 i from by rw [he5, va_up_ne _ _ (by omega)]).trans hk2
        have hk7 := (show en5 j = en1 j from by rw [he5, va_up_ne _ _ (by omega)]).trans hk3
        have hk8 := (show en5 (j + 1) = en1 (j + 1) from by rw [he5, va_up_ne _ _ (by omega)]).trans hk4
        refine lv_aload_n hx hb dX2_change_96 rfl (lv_at hl 2 rfl) ?_
        refine lv_iload hx hb dX2_change_97 (lv_at hl 0 rfl) ?_
        refine x_put (T := TX2) (N := 2) (ty := .int) hx hb hts uX2 tyX2 tyX2_ok nmX2 hown hK hP hD hS (i := i) (by omega) hk6 rfl 1 (by decide) u_fl_RX2_15 rfl (by decide +kernel) rfl rfl (by show 1 < 2; decide) dX2_change_99 (fun H locs hP hS => ?_)
        have hP : va_P D vwCl (xw n ad (va_up en5 i (.inr (2, [.ref (ad (i + 1)), .int (xI (((m : Int) - (z2 - z1)) + (z4 - z3)))])))) H := hP
        obtain ⟨en9, he9⟩ : ∃ z, z = va_up en5 i (.inr (2, [.ref (ad (i + 1)), .int (xI (((m : Int) - (z2 - z1)) + (z4 - z3)))])) := ⟨_, rfl⟩
        rw [← he9] at hP
        have ho9 : en9 i = (.inr (2, [.ref (ad (i + 1)), .int (xI (((m : Int) - (z2 - z1)) + (z4 - z3)))])) := by rw [he9, va_up_self]
        have hk10 := (show en9 j = en5 j from by rw [he9, va_up_ne _ _ (by omega)]).trans hk7
        have hk11 := (show en9 (i + 1) = en5 (i + 1) from by rw [he9, va_up_ne _ _ (by omega)]).trans ho5
        have hk12 := (show en9 (j + 1) = en5 (j + 1) from by rw [he9, va_up_ne _ _ (by omega)]).trans hk8
        refine lv_aload_n hx hb dX2_change_102 rfl (lv_at hl 2 rfl) ?_
        refine x_get (T := TX2) (N := 2) hx hb hts uX2 hown hK hP (i := i) (by omega) ho9 rfl 1 (by decide) u_fl_RX2_15 rfl dX2_change_103 ?_
        subst he9
        subst he5
        subst he1
        have e0 : Int.toNat ((m : Int) - (z2 - z1) + (z4 - z3)) = m - (z2.toNat - z1.toNat) + (z4 - z3).toNat := by omega
        have e1 : Int.toNat (z1 + (z4 - z3)) = z1.toNat + (z4 - z3).toNat := by omega
        have e2 : Int.toNat ((m : Int) - z2) = m - z2.toNat := by omega
        exact xe_i hx hb hrt hlocks hP hS (Or.inr (Or.inr ⟨⟨c_6, c_17⟩, by omega, rfl, XR.mk _ (va_up_self _ _ _) (by omega) (by rw [va_up_ne _ _ (by omega)]; exact va_up_self _ _ _) (fun t ht => by
      rw [e1, e2]
      exact sp_ed_cpy hg2 hw2 (by omega) (by omega) (by omega) t (by omega)) (by omega) (fun t ht => sp_ed_b hr.2.2.2 hq.2.2.2 (by omega) (by omega) (by omega) t (by omega)), ((xO.rf.up (by omega) (by omega)).up (by omega) (by omega)).up (by omega) (by omega)⟩)) dX2_change_106
      · refine x_sipush hx hb dX2_change_54 (by decide +kernel) ?_
        exact xe_i hx hb hrt hlocks hP hS (Or.inr (Or.inl ⟨⟨c_6, c_17⟩, by omega, rfl, rfl⟩)) dX2_change_57
    · refine x_sipush hx hb dX2_change_20 (by decide +kernel) ?_
      exact xe_i hx hb hrt hlocks hP hS (Or.inl ⟨fun q => c_17 q.2, rfl, rfl⟩) dX2_change_23

set_option maxRecDepth 20000 in
theorem c_X2_joinIn (l : Launch) (D : va_G) (cA : Nat → ClassId) (n : Nat) (ad : Nat → Nat) (en : Nat → va_E) (sz : Nat) {i m : Nat} {f : Nat → Int} (hi : i + 1 < n) (hr : XR cA ad en i m f) {j k : Nat} {h : Nat → Int} (hj : j + 1 < n) (hq : XR cA ad en j k h) (hij : j + 1 < i ∨ i + 1 < j) (z1 : Int) (hz1 : -2147483648 ≤ z1 ∧ z1 ≤ 2147483647) : Met l yX2_joinIn (Cond.code yX2_joinIn cX2_joinIn 3 (some .int) :: xU) (xrm 2 53) (va_Pc [.ref (ad i), .int (xI z1), .ref (ad j)] (xM D cA n ad en sz)) (va_Qi (fun r u => (¬ ((0 ≤ z1 ∧ z1 ≤ z1 ∧ z1 ≤ (m : Int)) ∧ 0 ≤ (0 : Int) ∧ (0 : Int) ≤ (k : Int) ∧ (k : Int) ≤ (k : Int)) ∧ r = xI (-1005) ∧ u = en) ∨ (((0 ≤ z1 ∧ z1 ≤ z1 ∧ z1 ≤ (m : Int)) ∧ 0 ≤ (0 : Int) ∧ (0 : Int) ≤ (k : Int) ∧ (k : Int) ≤ (k : Int)) ∧ 200 < (m : Int) - (z1 - z1) + ((k : Int) - (0 : Int)) ∧ r = xI (-1007) ∧ u = en) ∨ (((0 ≤ z1 ∧ z1 ≤ z1 ∧ z1 ≤ (m : Int)) ∧ 0 ≤ (0 : Int) ∧ (0 : Int) ≤ (k : Int) ∧ (k : Int) ≤ (k : Int)) ∧ (m : Int) - (z1 - z1) + ((k : Int) - (0 : Int)) ≤ 200 ∧ r = xI ((m : Int) - (z1 - z1) + ((k : Int) - (0 : Int))) ∧ XR cA ad u i (Int.toNat ((m : Int) - (z1 - z1) + ((k : Int) - (0 : Int)))) (sp_ed f (Int.toNat z1) (Int.toNat z1) h (Int.toNat (0 : Int)) (Int.toNat ((k : Int) - (0 : Int)))) ∧ xO i (i + 2) en u)) (xE D n ad) (xA n ad sz)) 0 0 (xA n ad sz) := by
  refine xmet (by decide) (Nat.le_of_ble_eq_true rfl) (fun p e s mm args below meth c ls hx hb hrt hml hown hts hlocks hname hB hl => ?_)
  obtain ⟨⟨hP, hK, hN⟩, hsz, hDt⟩ := hB
  have hD : xD (xA n ad sz) n ad := xD_self hDt sz
  have hA : ∀ q : Nat, s.heap.size ≤ q → xA n ad sz q := fun q h => Or.inr (by rw [← hsz]; exact h)
  have hS : va_S (xA n ad sz) s.heap s.heap [] := va_S.rf
  have hown : s.vm.findClass RX2 = some mm.cls := hown
  have hl : lv_has ls 3 [(0, .ref (ad i)), (1, .int (xI z1)), (2, .ref (ad j))] := hl
  have hm := hr.2.2.1
  have hm2 := hq.2.2.1
  refine lv_aload_n hx hb dX2_joinIn_0 rfl (lv_at hl 0 rfl) ?_
  refine lv_iload_n hx hb dX2_joinIn_1 rfl (lv_at hl 1 rfl) ?_
  refine lv_iload_n hx hb dX2_joinIn_2 rfl (lv_at hl 1 rfl) ?_
  refine lv_aload_n hx hb dX2_joinIn_3 rfl (lv_at hl 2 rfl) ?_
  refine x_iconst hx hb dX2_joinIn_4 ?_
  refine lv_aload_n hx hb dX2_joinIn_5 rfl (lv_at hl 2 rfl) ?_
  refine x_get (T := TX2) (N := 2) hx hb hts uX2 hown hK hP (i := j) (by omega) hq.1 rfl 1 (by decide) u_fl_RX2_15 rfl dX2_joinIn_6 ?_
  refine xm_i (i := i) (As := [.int (xI z1), .int (xI z1), .ref (ad j), .int (xI 0), .int (xI (k : Int))]) (rest := []) ⟨hx, hb, hml, hown, hts⟩ hl.1 (c_X2_change l D cA n ad en _ hi hr hj hq hij z1 z1 0 (k : Int) (by omega) (by omega) (by omega) (by omega)) k_X2_change u_ml_RX2_45 hK hN hP (by omega) hr.1 rfl rfl rfl rfl (Nat.le_of_ble_eq_true rfl) ⟨Nat.le_of_ble_eq_true rfl, Nat.le_of_ble_eq_true rfl⟩ ⟨Nat.le_of_ble_eq_true rfl, Nat.le_of_ble_eq_true rfl⟩ dX2_joinIn_9 hD hS hA (fun r1 en1 H locs hp1 hP hS => ?_)
  exact xe_i hx hb hrt hlocks hP hS (hp1) dX2_joinIn_12

set_option maxRecDepth 20000 in
theorem c_X2_exchange (l : Launch) (D : va_G) (cA : Nat → ClassId) (n : Nat) (ad : Nat → Nat) (en : Nat → va_E) (sz : Nat) {i m : Nat} {f : Nat → Int} (hi : i + 1 < n) (hr : XR cA ad en i m f) {j k : Nat} {h : Nat → Int} (hj : j + 1 < n) (hq : XR cA ad en j k h) (hij : j + 1 < i ∨ i + 1 < j) (z1 z2 : Int) (hz1 : -2147483648 ≤ z1 ∧ z1 ≤ 2147483647) (hz2 : -2147483648 ≤ z2 ∧ z2 ≤ 2147483647) : Met l yX2_exchange (Cond.code yX2_exchange cX2_exchange 4 (some .int) :: xU) (xrm 2 53) (va_Pc [.ref (ad i), .int (xI z1), .int (xI z2), .ref (ad j)] (xM D cA n ad en sz)) (va_Qi (fun r u => (¬ ((0 ≤ z1 ∧ z1 ≤ (min z2 (m : Int)) ∧ (min z2 (m : Int)) ≤ (m : Int)) ∧ 0 ≤ (0 : Int) ∧ (0 : Int) ≤ (k : Int) ∧ (k : Int) ≤ (k : Int)) ∧ r = xI (-1005) ∧ u = en) ∨ (((0 ≤ z1 ∧ z1 ≤ (min z2 (m : Int)) ∧ (min z2 (m : Int)) ≤ (m : Int)) ∧ 0 ≤ (0 : Int) ∧ (0 : Int) ≤ (k : Int) ∧ (k : Int) ≤ (k : Int)) ∧ 200 < (m : Int) - ((min z2 (m : Int)) - z1) + ((k : Int) - (0 : Int)) ∧ r = xI (-1007) ∧ u = en) ∨ (((0 ≤ z1 ∧ z1 ≤ (min z2 (m : Int)) ∧ (min z2 (m : Int)) ≤ (m : Int)) ∧ 0 ≤ (0 : Int) ∧ (0 : Int) ≤ (k : Int) ∧ (k : Int) ≤ (k : Int)) ∧ (m : Int) - ((min z2 (m : Int)) - z1) + ((k : Int) - (0 : Int)) ≤ 200 ∧ r = xI ((m : Int) - ((min z2 (m : Int)) - z1) + ((k : Int) - (0 : Int))) ∧ XR cA ad u i (Int.toNat ((m : Int) - ((min z2 (m : Int)) - z1) + ((k : Int) - (0 : Int)))) (sp_ed f (Int.toNat z1) (Int.toNat (min z2 (m : Int))) h (Int.toNat (0 : Int)) (Int.toNat ((k : Int) - (0 : Int)))) ∧ xO i (i + 2) en u)) (xE D n ad) (xA n ad sz)) 0 0 (xA n ad sz) := by
  refine xmet (by decide) (Nat.le_of_ble_eq_true rfl) (fun p e s mm args below meth c ls hx hb hrt hml hown hts hlocks hname hB hl => ?_)
  obtain ⟨⟨hP, hK, hN⟩, hsz, hDt⟩ := hB
  have hD : xD (xA n ad sz) n ad := xD_self hDt sz
  have hA : ∀ q : Nat, s.heap.size ≤ q → xA n ad sz q := fun q h => Or.inr (by rw [← hsz]; exact h)
  have hS : va_S (xA n ad sz) s.heap s.heap [] := va_S.rf
  have hown : s.vm.findClass RX2 = some mm.cls := hown
  have hl : lv_has ls 4 [(0, .ref (ad i)), (1, .int (xI z1)), (2, .int (xI z2)), (3, .ref (ad j))] := hl
  have hm := hr.2.2.1
  have hm2 := hq.2.2.1
  refine lv_aload_n hx hb dX2_exchange_0 rfl (lv_at hl 0 rfl) ?_
  refine lv_iload_n hx hb dX2_exchange_1 rfl (lv_at hl 1 rfl) ?_
  refine lv_iload_n hx hb dX2_exchange_2 rfl (lv_at hl 2 rfl) ?_
  refine lv_aload_n hx hb dX2_exchange_3 rfl (lv_at hl 0 rfl) ?_
  refine x_get (T := TX2) (N := 2) hx hb hts uX2 hown hK hP (i := i) (by omega) hr.1 rfl 1 (by decide) u_fl_RX2_15 rfl dX2_exchange_4 ?_
  refine x_min hx hb (hml.trans hl.1.symm) hts hown u_ml_RX2_49 (Nat.le_of_ble_eq_true rfl) (Nat.le_of_ble_eq_true rfl) (Nat.le_of_ble_eq_true rfl) (Nat.le_of_ble_eq_true rfl) (r := (min z2 (m : Int))) (by omega) (by omega) dX2_exchange_7 ?_
  refine lv_aload_n hx hb dX2_exchange_10 rfl (lv_at hl 3 rfl) ?_
  refine x_iconst hx hb dX2_exchange_11 ?_
  refine lv_aload_n hx hb dX2_exchange_12 rfl (lv_at hl 3 rfl) ?_
  refine x_get (T := TX2) (N := 2) hx hb hts uX2 hown hK hP (i := j) (by omega) hq.1 rfl 1 (by decide) u_fl_RX2_15 rfl dX2_exchange_13 ?_
  refine xm_i (i := i) (As := [.int (xI z1), .int (xI (min z2 (m : Int))), .ref (ad j), .int (xI 0), .int (xI (k : Int))]) (rest := []) ⟨hx, hb, hml, hown, hts⟩ hl.1 (c_X2_change l D cA n ad en _ hi hr hj hq hij z1 (min z2 (m : Int)) 0 (k : Int) (by omega) (by omega) (by omega) (by omega)) k_X2_change u_ml_RX2_45 hK hN hP (by omega) hr.1 rfl rfl rfl rfl (Nat.le_of_ble_eq_true rfl) ⟨Nat.le_of_ble_eq_true rfl, Nat.le_of_ble_eq_true rfl⟩ ⟨Nat.le_of_ble_eq_true rfl, Nat.le_of_ble_eq_true rfl⟩ dX2_exchange_16 hD hS hA (fun r1 en1 H locs hp1 hP hS => ?_)
  exact xe_i hx hb hrt hlocks hP hS (hp1) dX2_exchange_19

set_option maxRecDepth 20000 in
theorem c_X2_turnRound (l : Launch) (D : va_G) (cA : Nat → ClassId) (n : Nat) (ad : Nat → Nat) (en : Nat → va_E) (sz : Nat) {i m : Nat} {f : Nat → Int} (hi : i + 1 < n) (hr : XR cA ad en i m f) : Met l yX2_turnRound (Cond.code yX2_turnRound cX2_turnRound 4 none :: xU) (xrm 2 43) (va_Pc [.ref (ad i)] (xM D cA n ad en sz)) (va_Qv (fun u => XR cA ad u i m (fun t => f (m - 1 - t)) ∧ xO i (i + 2) en u) (xE D n ad) (xA n ad sz)) 0 0 (xA n ad sz) := by
  refine xmet (by decide) (Nat.le_of_ble_eq_true rfl) (fun p e s mm args below meth c ls hx hb hrt hml hown hts hlocks hname hB hl => ?_)
  obtain ⟨⟨hP, hK, hN⟩, hsz, hDt⟩ := hB
  have hD : xD (xA n ad sz) n ad := xD_self hDt sz
  have hA : ∀ q : Nat, s.heap.size ≤ q → xA n ad sz q := fun q h => Or.inr (by rw [← hsz]; exact h)
  have hS : va_S (xA n ad sz) s.heap s.heap [] := va_S.rf
  have hown : s.vm.findClass RX2 = some mm.cls := hown
  have hl : lv_has ls 4 [(0, .ref (ad i))] := hl
  have hm := hr.2.2.1
  refine x_iconst hx hb dX2_turnRound_0 ?_
  refine lv_istore_n (lv' := [(1, .int (xI 0)), (0, .ref (ad i))]) hx hb dX2_turnRound_1 rfl hl (by decide) rfl (fun ls hl => ?_)
  refine lv_aload_n hx hb dX2_turnRound_2 rfl (lv_at hl 1 rfl) ?_
  refine x_get (T := TX2) (N := 2) hx hb hts uX2 hown hK hP (i := i) (by omega) hr.1 rfl 1 (by decide) u_fl_RX2_15 rfl dX2_turnRound_3 ?_
  refine x_iconst hx hb dX2_turnRound_6 ?_
  refine x_isub hx hb dX2_turnRound_7 ?_
  refine lv_istore_n (lv' := [(2, .int (xI ((m : Int) - 1))), (1, .int (xI 0)), (0, .ref (ad i))]) hx hb dX2_turnRound_8 rfl hl (by decide) rfl (fun ls hl => ?_)
  have L9 : ∀ (nn : Nat) (k : Int) (hh : Int) (F : Nat → Int) (ew9 : Nat → va_E) (H : Heap) (locs : List Loc), (0 ≤ k ∧ hh = (m : Int) - 1 - k ∧ k ≤ m) → (∀ t : Nat, t < m → F t = if (t : Int) < k ∨ (m : Int) - 1 - k < t then f (m - 1 - t) else f t) → (((m : Int) - k).toNat) < nn → (XR cA ad ew9 i m F) → (xO i (i + 2) en ew9) → va_P D vwCl (xw n ad ew9) H → va_S (xA n ad sz) s.heap H locs → ∀ ls : Array Slot, lv_has ls 4 [(0, .ref (ad i)), (1, .int (xI k)), (2, .int (xI hh))] → W p l e (xrm 2 43) s mm args below meth c H locs 0 0 (MQ below (va_Qv (fun u => XR cA ad u i m (fun t => f (m - 1 - t)) ∧ xO i (i + 2) en u) (xE D n ad) (xA n ad sz)) args s 0 0 (xA n ad sz)) (F0 mm 9 ls []) := by
    intro nn
    induction nn with
    | zero =>
      intro k hh F ew9 H locs hk hF hmm hr ho hP hS ls hl
      exact absurd hmm (Nat.not_lt_zero _)
    | succ nn ih =>
      intro k hh F ew9 H locs hk hF hmm hr ho hP hS ls hl
      refine lv_iload_n hx hb dX2_turnRound_9 rfl (lv_at hl 1 rfl) ?_
      refine lv_iload_n hx hb dX2_turnRound_10 rfl (lv_at hl 2 rfl) ?_
      refine x_icmp_ge (tgt := 45) hx hb dX2_turnRound_11 (by decide) (by omega) (fun c_11 => ?_) (fun c_11 => ?_)
      · exact xe_v hx hb hrt hlocks hP hS (⟨hr.to rfl (fun t ht => by
        have h1 := hF t ht
        rw [h1]
        by_cases q3 : (t : Int) < k ∨ (m : Int) - 1 - k < t
        · rw [if_pos q3]
        · rw [if_neg q3, show m - 1 - t = t by omega]), ho⟩) dX2_turnRound_45
      · refine lv_aload_n hx hb dX2_turnRound_14 rfl (lv_at hl 0 rfl) ?_
        refine lv_iload_n hx hb dX2_turnRound_15 rfl (lv_at hl 1 rfl) ?_
        refine xv_i (i := i) (As := [.int (xI k)]) (rest := []) ⟨hx, hb, hml, hown, hts⟩ hl.1 (c_X2_signThere l D cA n ad ew9 (by omega) hr k (by omega)) k_X2_signThere u_ml_RX2_23 hK hN hP (by omega) hr.1 rfl rfl rfl rfl (Nat.le_of_ble_eq_true rfl) ⟨Nat.le_of_ble_eq_true rfl, Nat.le_of_ble_eq_true rfl⟩ ⟨Nat.le_of_ble_eq_true rfl, Nat.le_of_ble_eq_true rfl⟩ dX2_turnRound_16 ?_
        refine lv_istore_n (lv' := [(3, .int (xI (F (Int.toNat k)))), (0, .ref (ad i)), (1, .int (xI k)), (2, .int (xI hh))]) hx hb dX2_turnRound_19 rfl hl (by decide) rfl (fun ls hl => ?_)
        have hsg : 0 ≤ F (Int.toNat k) ∧ F (Int.toNat k) ≤ 255 := hr.2.2.2 _ (by omega)
        refine lv_aload_n hx hb dX2_turnRound_20 rfl (lv_at hl 1 rfl) ?_
        refine lv_iload_n hx hb dX2_turnRound_21 rfl (lv_at hl 2 rfl) ?_
        refine lv_aload_n hx hb dX2_turnRound_22 rfl (lv_at hl 1 rfl) ?_
        refine lv_iload_n hx hb dX2_turnRound_23 rfl (lv_at hl 3 rfl) ?_
        refine xv_i (i := i) (As := [.int (xI hh)]) (rest := [.int (xI k), .ref (ad i)]) ⟨hx, hb, hml, hown, hts⟩ hl.1 (c_X2_signThere l D cA n ad ew9 (by omega) hr hh (by omega)) k_X2_signThere u_ml_RX2_23 hK hN hP (by omega) hr.1 rfl rfl rfl rfl (Nat.le_of_ble_eq_true rfl) ⟨Nat.le_of_ble_eq_true rfl, Nat.le_of_ble_eq_true rfl⟩ ⟨Nat.le_of_ble_eq_true rfl, Nat.le_of_ble_eq_true rfl⟩ dX2_turnRound_24 ?_
        refine xm_v (i := i) (As := [.int (xI k), .int (xI (F (Int.toNat hh)))]) (rest := []) ⟨hx, hb, hml, hown, hts⟩ hl.1 (c_X2_write l D cA n ad ew9 _ (by omega) hr k (F (Int.toNat hh)) (by omega) (by have := hr.2.2.2 k.toNat (by omega); have := hr.2.2.2 hh.toNat (by omega); omega)) k_X2_write u_ml_RX2_27 hK hN hP (by omega) hr.1 rfl rfl rfl rfl (Nat.le_of_ble_eq_true rfl) ⟨Nat.le_of_ble_eq_true rfl, Nat.le_of_ble_eq_true rfl⟩ ⟨Nat.le_of_ble_eq_true rfl, Nat.le_of_ble_eq_true rfl⟩ dX2_turnRound_27 hD hS hA (fun en1 H locs hp1 hP hS => ?_)
        obtain ⟨hr, hp1w⟩ := hp1
        have ho := ho.tr hp1w
        refine lv_aload_n hx hb dX2_turnRound_30 rfl (lv_at hl 1 rfl) ?_
        refine lv_iload_n hx hb dX2_turnRound_31 rfl (lv_at hl 3 rfl) ?_
        refine lv_iload_n hx hb dX2_turnRound_32 rfl (lv_at hl 0 rfl) ?_
        refine xm_v (i := i) (As := [.int (xI hh), .int (xI (F (Int.toNat k)))]) (rest := []) ⟨hx, hb, hml, hown, hts⟩ hl.1 (c_X2_write l D cA n ad en1 _ (by omega) hr hh (F (Int.toNat k)) (by omega) (hsg)) k_X2_write u_ml_RX2_27 hK hN hP (by omega) hr.1 rfl rfl rfl rfl (Nat.le_of_ble_eq_true rfl) ⟨Nat.le_of_ble_eq_true rfl, Nat.le_of_ble_eq_true rfl⟩ ⟨Nat.le_of_ble_eq_true rfl, Nat.le_of_ble_eq_true rfl⟩ dX2_turnRound_33 hD hS hA (fun en2 H locs hp2 hP hS => ?_)
        obtain ⟨hr, hp2w⟩ := hp2
        have ho := ho.tr hp2w
        refine x_iinc (lv' := [(1, .int (xI (k + 1))), (3, .int (xI (F (Int.toNat k)))), (0, .ref (ad i)), (2, .int (xI hh))]) (k := 2) hx hb dX2_turnRound_36 hl rfl (by decide) rfl (fun ls hl => ?_)
        refine x_iinc (lv' := [(2, .int (xI (hh + (-1)))), (1, .int (xI (k + 1))), (3, .int (xI (F (Int.toNat k)))), (0, .ref (ad i))]) (k := 3) hx hb dX2_turnRound_39 hl rfl (by decide) rfl (fun ls hl => ?_)
        refine lv_goto (tgt := 9) hx hb dX2_turnRound_42 (by decide) ?_
        exact ih (k + 1) (hh + (-1)) _ en2 _ _ (by omega) (fun t ht => by
        have h1 := hF t ht
        have h2 := hF k.toNat (by omega)
        have h3 := hF hh.toNat (by omega)
        have e1 : (m - 1 - k.toNat : Nat) = hh.toNat := by omega
        have e2 : (m - 1 - hh.toNat : Nat) = k.toNat := by omega
        by_cases q1 : t = hh.toNat
        · subst q1
          rw [sp_up_s, if_pos (by omega), e2, h2, if_neg (by omega)]
        · rw [sp_up_n _ _ q1]
          by_cases q2 : t = k.toNat
          · subst q2
            rw [sp_up_s, if_pos (by omega), e1, h3, if_neg (by omega)]
          · rw [sp_up_n _ _ q2, h1]
            by_cases q3 : (t : Int) < k ∨ (m : Int) - 1 - k < t
            · rw [if_pos q3, if_pos (by omega)]
            · rw [if_neg q3, if_neg (by omega)]) (by omega) hr ho hP hS ls (lv_sub hl [3, 1, 0] rfl)
  exact L9 _ 0 ((m : Int) - 1) f en _ _ (by omega) (fun t ht => by rw [if_neg (by omega)]) (Nat.lt_succ_self _) hr xO.rf hP hS ls (lv_sub hl [2, 1, 0] rfl)

set_option maxRecDepth 20000 in
theorem c_X2_sameRegion (l : Launch) (D : va_G) (cA : Nat → ClassId) (n : Nat) (ad : Nat → Nat) (en : Nat → va_E) {i m : Nat} {f : Nat → Int} (hi : i + 1 < n) (hr : XR cA ad en i m f) {j k : Nat} {h : Nat → Int} (hj : j + 1 < n) (hq : XR cA ad en j k h) (z1 z2 z3 : Int) (hz1 : -2147483648 ≤ z1 ∧ z1 ≤ 2147483647) (hz2 : -2147483648 ≤ z2 ∧ z2 ≤ 2147483647) (hz3 : -2147483648 ≤ z3 ∧ z3 ≤ 2147483647) : Met l yX2_sameRegion (Cond.code yX2_sameRegion cX2_sameRegion 6 (some .boolean) :: xU) (xrm 2 42) (va_Pc [.ref (ad i), .int (xI z1), .ref (ad j), .int (xI z2), .int (xI z3)] (xB D cA n ad en)) (vp_Si (fun z => z = xb (sp_rg f m z1 h k z2 z3))) 0 0 (fun _ => False) := by
  refine xmet (by decide) (Nat.le_of_ble_eq_true rfl) (fun p e s mm args below meth c ls hx hb hrt hml hown hts hlocks hname hB hl => ?_)
  obtain ⟨hP, hK, hN⟩ := hB
  have hl : lv_has ls 6 [(0, .ref (ad i)), (1, .int (xI z1)), (2, .ref (ad j)), (3, .int (xI z2)), (4, .int (xI z3))] := hl
  have hm := hr.2.2.1
  have hm2 := hq.2.2.1
  refine lv_iload_n hx hb dX2_sameRegion_0 rfl (lv_at hl 1 rfl) ?_
  refine x_if_lt (tgt := 38) hx hb dX2_sameRegion_1 (by decide) (by omega) (fun c_1 => ?_) (fun c_1 => ?_)
  · refine x_iconst hx hb dX2_sameRegion_38 ?_
    exact xr_z hx hb hrt hlocks (xb_0 (fun q => by have := q.1; omega)) dX2_sameRegion_39
  · refine lv_iload_n hx hb dX2_sameRegion_4 rfl (lv_at hl 3 rfl) ?_
    refine x_if_lt (tgt := 38) hx hb dX2_sameRegion_5 (by decide) (by omega) (fun c_5 => ?_) (fun c_5 => ?_)
    · refine x_iconst hx hb dX2_sameRegion_38 ?_
      exact xr_z hx hb hrt hlocks (xb_0 (fun q => by have := q.1; omega)) dX2_sameRegion_39
    · refine lv_iload_n hx hb dX2_sameRegion_8 rfl (lv_at hl 1 rfl) ?_
      refine x_i2l hx hb dX2_sameRegion_9 (by omega) ?_
      refine lv_iload hx hb dX2_sameRegion_10 (lv_at hl 4 rfl) ?_
      refine x_i2l hx hb dX2_sameRegion_12 (by omega) ?_
      refine x_ladd hx hb dX2_sameRegion_13 ?_
      refine lv_aload_n hx hb dX2_sameRegion_14 rfl (lv_at hl 0 rfl) ?_
      refine x_get (T := TX2) (N := 2) hx hb hts uX2 hown hK hP (i := i) (by omega) hr.1 rfl 1 (by decide) u_fl_RX2_15 rfl dX2_sameRegion_15 ?_
      refine x_i2l hx hb dX2_sameRegion_18 (by omega) ?_
      refine x_lcmp hx hb dX2_sameRegion_19 (by omega) ?_
      refine x_if_gt (tgt := 38) hx hb dX2_sameRegion_20 (by decide) (xcmp_r _ _) (fun c_20 => ?_) (fun c_20 => ?_)
      · have c_20 := xcmp_gt.mp c_20
        refine x_iconst hx hb dX2_sameRegion_38 ?_
        exact xr_z hx hb hrt hlocks (xb_0 (fun q => by have := q.1; omega)) dX2_sameRegion_39
      · have c_20 := xcmp_le.mp c_20
        refine lv_iload_n hx hb dX2_sameRegion_23 rfl (lv_at hl 3 rfl) ?_
        refine x_i2l hx hb dX2_sameRegion_24 (by omega) ?_
        refine lv_iload hx hb dX2_sameRegion_25 (lv_at hl 4 rfl) ?_
        refine x_i2l hx hb dX2_sameRegion_27 (by omega) ?_
        refine x_ladd hx hb dX2_sameRegion_28 ?_
        refine lv_aload_n hx hb dX2_sameRegion_29 rfl (lv_at hl 2 rfl) ?_
        refine x_get (T := TX2) (N := 2) hx hb hts uX2 hown hK hP (i := j) (by omega) hq.1 rfl 1 (by decide) u_fl_RX2_15 rfl dX2_sameRegion_30 ?_
        refine x_i2l hx hb dX2_sameRegion_33 (by omega) ?_
        refine x_lcmp hx hb dX2_sameRegion_34 (by omega) ?_
        refine x_if_le (tgt := 40) hx hb dX2_sameRegion_35 (by decide) (xcmp_r _ _) (fun c_35 => ?_) (fun c_35 => ?_)
        · have c_35 := xcmp_le.mp c_35
          refine x_iconst hx hb dX2_sameRegion_40 ?_
          refine lv_istore (lv' := [(5, .int (xI 0)), (0, .ref (ad i)), (1, .int (xI z1)), (2, .ref (ad j)), (3, .int (xI z2)), (4, .int (xI z3))]) hx hb dX2_sameRegion_41 hl (by decide) rfl (fun ls hl => ?_)
          have L43 : ∀ (nn : Nat) (t : Int), (0 ≤ t ∧ t ≤ 200) → (∀ u : Nat, (u : Int) < t → f (z1.toNat + u) = h (z2.toNat + u)) → ((z3 - t).toNat) < nn → ∀ ls : Array Slot, lv_has ls 6 [(0, .ref (ad i)), (1, .int (xI z1)), (2, .ref (ad j)), (3, .int (xI z2)), (4, .int (xI z3)), (5, .int (xI t))] → W p l e (xrm 2 42) s mm args below meth c s.heap [] 0 0 (MQ below (vp_Si (fun z => z = xb (sp_rg f m z1 h k z2 z3))) args s 0 0 (fun _ => False)) (F0 mm 43 ls []) := by
            intro nn
            induction nn with
            | zero =>
              intro t  ht hF hmm  ls hl
              exact absurd hmm (Nat.not_lt_zero _)
            | succ nn ih =>
              intro t  ht hF hmm  ls hl
              refine lv_iload hx hb dX2_sameRegion_43 (lv_at hl 5 rfl) ?_
              refine lv_iload hx hb dX2_sameRegion_45 (lv_at hl 4 rfl) ?_
              refine x_icmp_ge (tgt := 77) hx hb dX2_sameRegion_47 (by decide) (by omega) (fun c_47 => ?_) (fun c_47 => ?_)
              · refine x_iconst hx hb dX2_sameRegion_77 ?_
                exact xr_z hx hb hrt hlocks (xb_1 ⟨by omega, fun u hu => hF u (by omega)⟩) dX2_sameRegion_78
              · refine lv_aload_n hx hb dX2_sameRegion_50 rfl (lv_at hl 0 rfl) ?_
                refine lv_iload_n hx hb dX2_sameRegion_51 rfl (lv_at hl 1 rfl) ?_
                refine lv_iload hx hb dX2_sameRegion_52 (lv_at hl 5 rfl) ?_
                refine x_iadd hx hb dX2_sameRegion_54 ?_
                refine xv_i (i := i) (As := [.int (xI (z1 + t))]) (rest := []) ⟨hx, hb, hml, hown, hts⟩ hl.1 (c_X2_signThere l D cA n ad en (by omega) hr (z1 + t) (by omega)) k_X2_signThere u_ml_RX2_23 hK hN hP (by omega) hr.1 rfl rfl rfl rfl (Nat.le_of_ble_eq_true rfl) ⟨Nat.le_of_ble_eq_true rfl, Nat.le_of_ble_eq_true rfl⟩ ⟨Nat.le_of_ble_eq_true rfl, Nat.le_of_ble_eq_true rfl⟩ dX2_sameRegion_55 ?_
                refine lv_aload_n hx hb dX2_sameRegion_58 rfl (lv_at hl 2 rfl) ?_
                refine lv_iload_n hx hb dX2_sameRegion_59 rfl (lv_at hl 3 rfl) ?_
                refine lv_iload hx hb dX2_sameRegion_60 (lv_at hl 5 rfl) ?_
                refine x_iadd hx hb dX2_sameRegion_62 ?_
                refine xv_i (i := j) (As := [.int (xI (z2 + t))]) (rest := [.int (xI (f (Int.toNat (z1 + t))))]) ⟨hx, hb, hml, hown, hts⟩ hl.1 (c_X2_signThere l D cA n ad en (by omega) hq (z2 + t) (by omega)) k_X2_signThere u_ml_RX2_23 hK hN hP (by omega) hq.1 rfl rfl rfl rfl (Nat.le_of_ble_eq_true rfl) ⟨Nat.le_of_ble_eq_true rfl, Nat.le_of_ble_eq_true rfl⟩ ⟨Nat.le_of_ble_eq_true rfl, Nat.le_of_ble_eq_true rfl⟩ dX2_sameRegion_63 ?_
                refine x_icmp_eq (tgt := 71) hx hb dX2_sameRegion_66 (by decide) (by have := hr.2.2.2 (Int.toNat (z1 + t)) (by omega); have := hq.2.2.2 (Int.toNat (z2 + t)) (by omega); omega) (fun c_66 => ?_) (fun c_66 => ?_)
                · refine x_iinc (lv' := [(5, .int (xI (t + 1))), (0, .ref (ad i)), (1, .int (xI z1)), (2, .ref (ad j)), (3, .int (xI z2)), (4, .int (xI z3))]) (k := 5) hx hb dX2_sameRegion_71 hl rfl (by decide) rfl (fun ls hl => ?_)
                  refine lv_goto (tgt := 43) hx hb dX2_sameRegion_74 (by decide) ?_
                  exact ih (t + 1) (by omega) (fun u hu => by
        by_cases q : (u : Int) = t
        · rw [show z1.toNat + u = Int.toNat (z1 + t) by omega, show z2.toNat + u = Int.toNat (z2 + t) by omega]
          exact c_66
        · exact hF u (by omega)) (by omega)  ls (lv_sub hl [1, 2, 3, 4, 5, 0] rfl)
                · refine x_iconst hx hb dX2_sameRegion_69 ?_
                  exact xr_z hx hb hrt hlocks (xb_0 (fun q => c_66 (by
        have h1 := q.2 t.toNat (by omega)
        rw [show Int.toNat (z1 + t) = z1.toNat + t.toNat by omega, show Int.toNat (z2 + t) = z2.toNat + t.toNat by omega]
        exact h1))) dX2_sameRegion_70
          exact L43 _ 0 (by omega) (fun u hu => absurd hu (by omega)) (Nat.lt_succ_self _)  ls (lv_sub hl [1, 2, 3, 4, 5, 0] rfl)
        · have c_35 := xcmp_gt.mp c_35
          refine x_iconst hx hb dX2_sameRegion_38 ?_
          exact xr_z hx hb hrt hlocks (xb_0 (fun q => by have := q.1; omega)) dX2_sameRegion_39

set_option maxRecDepth 20000 in
theorem c_X2_hasStanding (l : Launch) (D : va_G) (cA : Nat → ClassId) (n : Nat) (ad : Nat → Nat) (en : Nat → va_E) {i m : Nat} {f : Nat → Int} (hi : i + 1 < n) (hr : XR cA ad en i m f) {j k : Nat} {h : Nat → Int} (hj : j + 1 < n) (hq : XR cA ad en j k h) (z1 : Int) (hz1 : -2147483648 ≤ z1 ∧ z1 ≤ 2147483647) : Met l yX2_hasStanding (Cond.code yX2_hasStanding cX2_hasStanding 3 (some .boolean) :: xU) (xrm 3 67) (va_Pc [.ref (ad i), .ref (ad j), .int (xI z1)] (xB D cA n ad en)) (vp_Si (fun z => z = xb (sp_st f m h k z1))) 0 0 (fun _ => False) := by
  refine xmet (by decide) (Nat.le_of_ble_eq_true rfl) (fun p e s mm args below meth c ls hx hb hrt hml hown hts hlocks hname hB hl => ?_)
  obtain ⟨hP, hK, hN⟩ := hB
  have hl : lv_has ls 3 [(0, .ref (ad i)), (1, .ref (ad j)), (2, .int (xI z1))] := hl
  have hm := hr.2.2.1
  have hm2 := hq.2.2.1
  refine lv_aload_n hx hb dX2_hasStanding_0 rfl (lv_at hl 0 rfl) ?_
  refine lv_iload_n hx hb dX2_hasStanding_1 rfl (lv_at hl 2 rfl) ?_
  refine lv_aload_n hx hb dX2_hasStanding_2 rfl (lv_at hl 1 rfl) ?_
  refine x_iconst hx hb dX2_hasStanding_3 ?_
  refine lv_aload_n hx hb dX2_hasStanding_4 rfl (lv_at hl 1 rfl) ?_
  refine x_get (T := TX2) (N := 2) hx hb hts uX2 hown hK hP (i := j) (by omega) hq.1 rfl 1 (by decide) u_fl_RX2_15 rfl dX2_hasStanding_5 ?_
  refine xv_i (i := i) (As := [.int (xI z1), .ref (ad j), .int (xI 0), .int (xI (k : Int))]) (rest := []) ⟨hx, hb, hml, hown, hts⟩ hl.1 (c_X2_sameRegion l D cA n ad en (by omega) hr (by omega) hq z1 0 (k : Int) (by omega) (by omega) (by omega)) k_X2_sameRegion u_ml_RX2_55 hK hN hP (by omega) hr.1 rfl rfl rfl rfl (Nat.le_of_ble_eq_true rfl) ⟨Nat.le_of_ble_eq_true rfl, Nat.le_of_ble_eq_true rfl⟩ ⟨Nat.le_of_ble_eq_true rfl, Nat.le_of_ble_eq_true rfl⟩ dX2_hasStanding_8 ?_
  exact xr_z hx hb hrt hlocks (xb_iff sp_rg_st) dX2_hasStanding_11

set_option maxRecDepth 20000 in
theorem c_X2_findForward (l : Launch) (D : va_G) (cA : Nat → ClassId) (n : Nat) (ad : Nat → Nat) (en : Nat → va_E) {i m : Nat} {f : Nat → Int} (hi : i + 1 < n) (hr : XR cA ad en i m f) {j k : Nat} {h : Nat → Int} (hj : j + 1 < n) (hq : XR cA ad en j k h) (z1 : Int) (hz1 : -2147483648 ≤ z1 ∧ z1 ≤ 2147483647) : Met l yX2_findForward (Cond.code yX2_findForward cX2_findForward 4 (some .int) :: xU) (xrm 4 89) (va_Pc [.ref (ad i), .ref (ad j), .int (xI z1)] (xB D cA n ad en)) (vp_Si (fun z => z = xI (sp_find (sp_st f m h k) (max 0 (min z1 (m : Int))) ((m : Int) + 1)))) 0 0 (fun _ => False) := by
  refine xmet (by decide) (Nat.le_of_ble_eq_true rfl) (fun p e s mm args below meth c ls hx hb hrt hml hown hts hlocks hname hB hl => ?_)
  obtain ⟨hP, hK, hN⟩ := hB
  have hl : lv_has ls 4 [(0, .ref (ad i)), (1, .ref (ad j)), (2, .int (xI z1))] := hl
  have hm := hr.2.2.1
  have hm2 := hq.2.2.1
  refine x_iconst hx hb dX2_findForward_0 ?_
  refine lv_iload_n hx hb dX2_findForward_1 rfl (lv_at hl 2 rfl) ?_
  refine lv_aload_n hx hb dX2_findForward_2 rfl (lv_at hl 0 rfl) ?_
  refine x_get (T := TX2) (N := 2) hx hb hts uX2 hown hK hP (i := i) (by omega) hr.1 rfl 1 (by decide) u_fl_RX2_15 rfl dX2_findForward_3 ?_
  refine x_min hx hb (hml.trans hl.1.symm) hts hown u_ml_RX2_49 (Nat.le_of_ble_eq_true rfl) (Nat.le_of_ble_eq_true rfl) (Nat.le_of_ble_eq_true rfl) (Nat.le_of_ble_eq_true rfl) (r := (min z1 (m : Int))) (by omega) (by omega) dX2_findForward_6 ?_
  refine x_max hx hb (hml.trans hl.1.symm) hts hown u_ml_RX2_59 (Nat.le_of_ble_eq_true rfl) (Nat.le_of_ble_eq_true rfl) (Nat.le_of_ble_eq_true rfl) (Nat.le_of_ble_eq_true rfl) (r := (max 0 (min z1 (m : Int)))) (by omega) (by omega) dX2_findForward_9 ?_
  refine lv_istore_n (lv' := [(3, .int (xI (max 0 (min z1 (m : Int))))), (0, .ref (ad i)), (1, .ref (ad j)), (2, .int (xI z1))]) hx hb dX2_findForward_12 rfl hl (by decide) rfl (fun ls hl => ?_)
  have L13 : ∀ (nn : Nat) (a : Int), (0 ≤ a ∧ a ≤ (m : Int) + 1) → (sp_find (sp_st f m h k) a ((m : Int) + 1) = sp_find (sp_st f m h k) (max 0 (min z1 (m : Int))) ((m : Int) + 1)) → (((m : Int) + 1 - a).toNat) < nn → ∀ ls : Array Slot, lv_has ls 4 [(0, .ref (ad i)), (1, .ref (ad j)), (3, .int (xI a))] → W p l e (xrm 4 89) s mm args below meth c s.heap [] 0 0 (MQ below (vp_Si (fun z => z = xI (sp_find (sp_st f m h k) (max 0 (min z1 (m : Int))) ((m : Int) + 1)))) args s 0 0 (fun _ => False)) (F0 mm 13 ls []) := by
    intro nn
    induction nn with
    | zero =>
      intro a  ha hF hmm  ls hl
      exact absurd hmm (Nat.not_lt_zero _)
    | succ nn ih =>
      intro a  ha hF hmm  ls hl
      refine lv_iload_n hx hb dX2_findForward_13 rfl (lv_at hl 2 rfl) ?_
      refine lv_aload_n hx hb dX2_findForward_14 rfl (lv_at hl 0 rfl) ?_
      refine x_get (T := TX2) (N := 2) hx hb hts uX2 hown hK hP (i := i) (by omega) hr.1 rfl 1 (by decide) u_fl_RX2_15 rfl dX2_findForward_15 ?_
      refine x_icmp_gt (tgt := 38) hx hb dX2_findForward_18 (by decide) (by omega) (fun c_18 => ?_) (fun c_18 => ?_)
      · refine x_iconst hx hb dX2_findForward_38 ?_
        exact xr_i hx hb hrt hlocks (by rw [← hF, sp_find_e (by omega)]) dX2_findForward_39
      · refine lv_aload_n hx hb dX2_findForward_21 rfl (lv_at hl 0 rfl) ?_
        refine lv_aload_n hx hb dX2_findForward_22 rfl (lv_at hl 1 rfl) ?_
        refine lv_iload_n hx hb dX2_findForward_23 rfl (lv_at hl 2 rfl) ?_
        refine xv_i (i := i) (As := [.ref (ad j), .int (xI a)]) (rest := []) ⟨hx, hb, hml, hown, hts⟩ hl.1 (c_X2_hasStanding l D cA n ad en (by omega) hr (by omega) hq a (by omega)) k_X2_hasStanding u_ml_RX2_62 hK hN hP (by omega) hr.1 rfl rfl rfl rfl (Nat.le_of_ble_eq_true rfl) ⟨Nat.le_of_ble_eq_true rfl, Nat.le_of_ble_eq_true rfl⟩ ⟨Nat.le_of_ble_eq_true rfl, Nat.le_of_ble_eq_true rfl⟩ dX2_findForward_24 ?_
        refine x_ifb_eq (tgt := 32) hx hb dX2_findForward_27 (by decide)  (fun c_27 => ?_) (fun c_27 => ?_)
        · refine x_iinc (lv' := [(3, .int (xI (a + 1))), (0, .ref (ad i)), (1, .ref (ad j))]) (k := 2) hx hb dX2_findForward_32 hl rfl (by decide) rfl (fun ls hl => ?_)
          refine lv_goto (tgt := 13) hx hb dX2_findForward_35 (by decide) ?_
          exact ih (a + 1) (by omega) ((sp_find_f (P := (sp_st f m h k)) (by omega) c_27).symm.trans hF) (by omega)  ls (lv_sub hl [1, 2, 0] rfl)
        · refine lv_iload_n hx hb dX2_findForward_30 rfl (lv_at hl 2 rfl) ?_
          exact xr_i hx hb hrt hlocks (by rw [← hF, sp_find_t (P := (sp_st f m h k)) (by omega) c_27]) dX2_findForward_31
  exact L13 _ (max 0 (min z1 (m : Int))) (by omega) rfl (Nat.lt_succ_self _)  ls (lv_sub hl [1, 2, 0] rfl)

set_option maxRecDepth 20000 in
theorem c_X2_findBackward (l : Launch) (D : va_G) (cA : Nat → ClassId) (n : Nat) (ad : Nat → Nat) (en : Nat → va_E) {i m : Nat} {f : Nat → Int} (hi : i + 1 < n) (hr : XR cA ad en i m f) {j k : Nat} {h : Nat → Int} (hj : j + 1 < n) (hq : XR cA ad en j k h) (z1 : Int) (hz1 : -2147483648 ≤ z1 ∧ z1 ≤ 2147483647) : Met l yX2_findBackward (Cond.code yX2_findBackward cX2_findBackward 4 (some .int) :: xU) (xrm 4 89) (va_Pc [.ref (ad i), .ref (ad j), .int (xI z1)] (xB D cA n ad en)) (vp_Si (fun z => z = xI (sp_rfind (sp_st f m h k) (min z1 (m : Int))))) 0 0 (fun _ => False) := by
  refine xmet (by decide) (Nat.le_of_ble_eq_true rfl) (fun p e s mm args below meth c ls hx hb hrt hml hown hts hlocks hname hB hl => ?_)
  obtain ⟨hP, hK, hN⟩ := hB
  have hl : lv_has ls 4 [(0, .ref (ad i)), (1, .ref (ad j)), (2, .int (xI z1))] := hl
  have hm := hr.2.2.1
  have hm2 := hq.2.2.1
  refine lv_iload_n hx hb dX2_findBackward_0 rfl (lv_at hl 2 rfl) ?_
  refine lv_aload_n hx hb dX2_findBackward_1 rfl (lv_at hl 0 rfl) ?_
  refine x_get (T := TX2) (N := 2) hx hb hts uX2 hown hK hP (i := i) (by omega) hr.1 rfl 1 (by decide) u_fl_RX2_15 rfl dX2_findBackward_2 ?_
  refine x_min hx hb (hml.trans hl.1.symm) hts hown u_ml_RX2_49 (Nat.le_of_ble_eq_true rfl) (Nat.le_of_ble_eq_true rfl) (Nat.le_of_ble_eq_true rfl) (Nat.le_of_ble_eq_true rfl) (r := (min z1 (m : Int))) (by omega) (by omega) dX2_findBackward_5 ?_
  refine lv_istore_n (lv' := [(3, .int (xI (min z1 (m : Int)))), (0, .ref (ad i)), (1, .ref (ad j)), (2, .int (xI z1))]) hx hb dX2_findBackward_8 rfl hl (by decide) rfl (fun ls hl => ?_)
  have L9 : ∀ (nn : Nat) (a : Int), (a ≤ (m : Int) ∧ -2147483648 ≤ a) → (sp_rfind (sp_st f m h k) a = sp_rfind (sp_st f m h k) (min z1 (m : Int))) → ((a + 1).toNat) < nn → ∀ ls : Array Slot, lv_has ls 4 [(0, .ref (ad i)), (1, .ref (ad j)), (3, .int (xI a))] → W p l e (xrm 4 89) s mm args below meth c s.heap [] 0 0 (MQ below (vp_Si (fun z => z = xI (sp_rfind (sp_st f m h k) (min z1 (m : Int))))) args s 0 0 (fun _ => False)) (F0 mm 9 ls []) := by
    intro nn
    induction nn with
    | zero =>
      intro a  ha hF hmm  ls hl
      exact absurd hmm (Nat.not_lt_zero _)
    | succ nn ih =>
      intro a  ha hF hmm  ls hl
      refine lv_iload_n hx hb dX2_findBackward_9 rfl (lv_at hl 2 rfl) ?_
      refine x_if_lt (tgt := 30) hx hb dX2_findBackward_10 (by decide) (by omega) (fun c_10 => ?_) (fun c_10 => ?_)
      · refine x_iconst hx hb dX2_findBackward_30 ?_
        exact xr_i hx hb hrt hlocks (by rw [← hF, sp_rfind_e (by omega)]) dX2_findBackward_31
      · refine lv_aload_n hx hb dX2_findBackward_13 rfl (lv_at hl 0 rfl) ?_
        refine lv_aload_n hx hb dX2_findBackward_14 rfl (lv_at hl 1 rfl) ?_
        refine lv_iload_n hx hb dX2_findBackward_15 rfl (lv_at hl 2 rfl) ?_
        refine xv_i (i := i) (As := [.ref (ad j), .int (xI a)]) (rest := []) ⟨hx, hb, hml, hown, hts⟩ hl.1 (c_X2_hasStanding l D cA n ad en (by omega) hr (by omega) hq a (by omega)) k_X2_hasStanding u_ml_RX2_62 hK hN hP (by omega) hr.1 rfl rfl rfl rfl (Nat.le_of_ble_eq_true rfl) ⟨Nat.le_of_ble_eq_true rfl, Nat.le_of_ble_eq_true rfl⟩ ⟨Nat.le_of_ble_eq_true rfl, Nat.le_of_ble_eq_true rfl⟩ dX2_findBackward_16 ?_
        refine x_ifb_eq (tgt := 24) hx hb dX2_findBackward_19 (by decide)  (fun c_19 => ?_) (fun c_19 => ?_)
        · refine x_iinc (lv' := [(3, .int (xI (a + (-1)))), (0, .ref (ad i)), (1, .ref (ad j))]) (k := 2) hx hb dX2_findBackward_24 hl rfl (by decide) rfl (fun ls hl => ?_)
          refine lv_goto (tgt := 9) hx hb dX2_findBackward_27 (by decide) ?_
          exact ih (a + (-1)) (by omega) ((sp_rfind_f (P := (sp_st f m h k)) (by omega) c_19).symm.trans hF) (by omega)  ls (lv_sub hl [1, 2, 0] rfl)
        · refine lv_iload_n hx hb dX2_findBackward_22 rfl (lv_at hl 2 rfl) ?_
          exact xr_i hx hb hrt hlocks (by rw [← hF, sp_rfind_t (P := (sp_st f m h k)) (by omega) c_19]) dX2_findBackward_23
  exact L9 _ (min z1 (m : Int)) (by omega) rfl (Nat.lt_succ_self _)  ls (lv_sub hl [1, 2, 0] rfl)

set_option maxRecDepth 20000 in
theorem c_X2_signForward (l : Launch) (D : va_G) (cA : Nat → ClassId) (n : Nat) (ad : Nat → Nat) (en : Nat → va_E) {i m : Nat} {f : Nat → Int} (hi : i + 1 < n) (hr : XR cA ad en i m f) (z1 z2 : Int) (hz1 : -2147483648 ≤ z1 ∧ z1 ≤ 2147483647) (hz2 : -2147483648 ≤ z2 ∧ z2 ≤ 2147483647) : Met l yX2_signForward (Cond.code yX2_signForward cX2_signForward 4 (some .int) :: xU) (xrm 2 42) (va_Pc [.ref (ad i), .int (xI z1), .int (xI z2)] (xB D cA n ad en)) (vp_Si (fun z => z = xI (sp_find (fun q : Int => f q.toNat = z1) (max 0 z2) (m : Int)))) 0 0 (fun _ => False) := by
  refine xmet (by decide) (Nat.le_of_ble_eq_true rfl) (fun p e s mm args below meth c ls hx hb hrt hml hown hts hlocks hname hB hl => ?_)
  obtain ⟨hP, hK, hN⟩ := hB
  have hl : lv_has ls 4 [(0, .ref (ad i)), (1, .int (xI z1)), (2, .int (xI z2))] := hl
  have hm := hr.2.2.1
  refine x_iconst hx hb dX2_signForward_0 ?_
  refine lv_iload_n hx hb dX2_signForward_1 rfl (lv_at hl 2 rfl) ?_
  refine x_max hx hb (hml.trans hl.1.symm) hts hown u_ml_RX2_59 (Nat.le_of_ble_eq_true rfl) (Nat.le_of_ble_eq_true rfl) (Nat.le_of_ble_eq_true rfl) (Nat.le_of_ble_eq_true rfl) (r := (max 0 z2)) (by omega) (by omega) dX2_signForward_2 ?_
  refine lv_istore_n (lv' := [(3, .int (xI (max 0 z2))), (0, .ref (ad i)), (1, .int (xI z1)), (2, .int (xI z2))]) hx hb dX2_signForward_5 rfl hl (by decide) rfl (fun ls hl => ?_)
  have L6 : ∀ (nn : Nat) (a : Int), (0 ≤ a ∧ a ≤ 2147483647) → (sp_find (fun q : Int => f q.toNat = z1) a (m : Int) = sp_find (fun q : Int => f q.toNat = z1) (max 0 z2) (m : Int)) → (((m : Int) - a).toNat) < nn → ∀ ls : Array Slot, lv_has ls 4 [(0, .ref (ad i)), (1, .int (xI z1)), (3, .int (xI a))] → W p l e (xrm 2 42) s mm args below meth c s.heap [] 0 0 (MQ below (vp_Si (fun z => z = xI (sp_find (fun q : Int => f q.toNat = z1) (max 0 z2) (m : Int)))) args s 0 0 (fun _ => False)) (F0 mm 6 ls []) := by
    intro nn
    induction nn with
    | zero =>
      intro a  ha hF hmm  ls hl
      exact absurd hmm (Nat.not_lt_zero _)
    | succ nn ih =>
      intro a  ha hF hmm  ls hl
      refine lv_iload_n hx hb dX2_signForward_6 rfl (lv_at hl 2 rfl) ?_
      refine lv_aload_n hx hb dX2_signForward_7 rfl (lv_at hl 0 rfl) ?_
      refine x_get (T := TX2) (N := 2) hx hb hts uX2 hown hK hP (i := i) (by omega) hr.1 rfl 1 (by decide) u_fl_RX2_15 rfl dX2_signForward_8 ?_
      refine x_icmp_ge (tgt := 31) hx hb dX2_signForward_11 (by decide) (by omega) (fun c_11 => ?_) (fun c_11 => ?_)
      · refine x_iconst hx hb dX2_signForward_31 ?_
        exact xr_i hx hb hrt hlocks (by rw [← hF, sp_find_e (by omega)]) dX2_signForward_32
      · refine lv_aload_n hx hb dX2_signForward_14 rfl (lv_at hl 0 rfl) ?_
        refine lv_iload_n hx hb dX2_signForward_15 rfl (lv_at hl 2 rfl) ?_
        refine xv_i (i := i) (As := [.int (xI a)]) (rest := []) ⟨hx, hb, hml, hown, hts⟩ hl.1 (c_X2_signThere l D cA n ad en (by omega) hr a (by omega)) k_X2_signThere u_ml_RX2_23 hK hN hP (by omega) hr.1 rfl rfl rfl rfl (Nat.le_of_ble_eq_true rfl) ⟨Nat.le_of_ble_eq_true rfl, Nat.le_of_ble_eq_true rfl⟩ ⟨Nat.le_of_ble_eq_true rfl, Nat.le_of_ble_eq_true rfl⟩ dX2_signForward_16 ?_
        refine lv_iload_n hx hb dX2_signForward_19 rfl (lv_at hl 1 rfl) ?_
        refine x_icmp_ne (tgt := 25) hx hb dX2_signForward_20 (by decide) (by have := hr.2.2.2 a.toNat (by omega); omega) (fun c_20 => ?_) (fun c_20 => ?_)
        · refine x_iinc (lv' := [(3, .int (xI (a + 1))), (0, .ref (ad i)), (1, .int (xI z1))]) (k := 2) hx hb dX2_signForward_25 hl rfl (by decide) rfl (fun ls hl => ?_)
          refine lv_goto (tgt := 6) hx hb dX2_signForward_28 (by decide) ?_
          exact ih (a + 1) (by omega) ((sp_find_f (P := (fun q : Int => f q.toNat = z1)) (by omega) c_20).symm.trans hF) (by omega)  ls (lv_sub hl [1, 2, 0] rfl)
        · refine lv_iload_n hx hb dX2_signForward_23 rfl (lv_at hl 2 rfl) ?_
          exact xr_i hx hb hrt hlocks (by rw [← hF, sp_find_t (P := (fun q : Int => f q.toNat = z1)) (by omega) c_20]) dX2_signForward_24
  exact L6 _ (max 0 z2) (by omega) rfl (Nat.lt_succ_self _)  ls (lv_sub hl [1, 2, 0] rfl)

set_option maxRecDepth 20000 in
theorem c_X2_signBackward (l : Launch) (D : va_G) (cA : Nat → ClassId) (n : Nat) (ad : Nat → Nat) (en : Nat → va_E) {i m : Nat} {f : Nat → Int} (hi : i + 1 < n) (hr : XR cA ad en i m f) (z1 z2 : Int) (hz1 : -2147483648 ≤ z1 ∧ z1 ≤ 2147483647) (hz2 : -2147483648 ≤ z2 ∧ z2 ≤ 2147483647) : Met l yX2_signBackward (Cond.code yX2_signBackward cX2_signBackward 4 (some .int) :: xU) (xrm 2 42) (va_Pc [.ref (ad i), .int (xI z1), .int (xI z2)] (xB D cA n ad en)) (vp_Si (fun z => z = xI (sp_rfind (fun q : Int => f q.toNat = z1) (min z2 ((m : Int) - 1))))) 0 0 (fun _ => False) := by
  refine xmet (by decide) (Nat.le_of_ble_eq_true rfl) (fun p e s mm args below meth c ls hx hb hrt hml hown hts hlocks hname hB hl => ?_)
  obtain ⟨hP, hK, hN⟩ := hB
  have hl : lv_has ls 4 [(0, .ref (ad i)), (1, .int (xI z1)), (2, .int (xI z2))] := hl
  have hm := hr.2.2.1
  refine lv_iload_n hx hb dX2_signBackward_0 rfl (lv_at hl 2 rfl) ?_
  refine lv_aload_n hx hb dX2_signBackward_1 rfl (lv_at hl 0 rfl) ?_
  refine x_get (T := TX2) (N := 2) hx hb hts uX2 hown hK hP (i := i) (by omega) hr.1 rfl 1 (by decide) u_fl_RX2_15 rfl dX2_signBackward_2 ?_
  refine x_iconst hx hb dX2_signBackward_5 ?_
  refine x_isub hx hb dX2_signBackward_6 ?_
  refine x_min hx hb (hml.trans hl.1.symm) hts hown u_ml_RX2_49 (Nat.le_of_ble_eq_true rfl) (Nat.le_of_ble_eq_true rfl) (Nat.le_of_ble_eq_true rfl) (Nat.le_of_ble_eq_true rfl) (r := (min z2 ((m : Int) - 1))) (by omega) (by omega) dX2_signBackward_7 ?_
  refine lv_istore_n (lv' := [(3, .int (xI (min z2 ((m : Int) - 1)))), (0, .ref (ad i)), (1, .int (xI z1)), (2, .int (xI z2))]) hx hb dX2_signBackward_10 rfl hl (by decide) rfl (fun ls hl => ?_)
  have L11 : ∀ (nn : Nat) (a : Int), (a ≤ (m : Int) - 1 ∧ -2147483648 ≤ a) → (sp_rfind (fun q : Int => f q.toNat = z1) a = sp_rfind (fun q : Int => f q.toNat = z1) (min z2 ((m : Int) - 1))) → ((a + 1).toNat) < nn → ∀ ls : Array Slot, lv_has ls 4 [(0, .ref (ad i)), (1, .int (xI z1)), (3, .int (xI a))] → W p l e (xrm 2 42) s mm args below meth c s.heap [] 0 0 (MQ below (vp_Si (fun z => z = xI (sp_rfind (fun q : Int => f q.toNat = z1) (min z2 ((m : Int) - 1))))) args s 0 0 (fun _ => False)) (F0 mm 11 ls []) := by
    intro nn
    induction nn with
    | zero =>
      intro a  ha hF hmm  ls hl
      exact absurd hmm (Nat.not_lt_zero _)
    | succ nn ih =>
      intro a  ha hF hmm  ls hl
      refine lv_iload_n hx hb dX2_signBackward_11 rfl (lv_at hl 2 rfl) ?_
      refine x_if_lt (tgt := 32) hx hb dX2_signBackward_12 (by decide) (by omega) (fun c_12 => ?_) (fun c_12 => ?_)
      · refine x_iconst hx hb dX2_signBackward_32 ?_
        exact xr_i hx hb hrt hlocks (by rw [← hF, sp_rfind_e (by omega)]) dX2_signBackward_33
      · refine lv_aload_n hx hb dX2_signBackward_15 rfl (lv_at hl 0 rfl) ?_
        refine lv_iload_n hx hb dX2_signBackward_16 rfl (lv_at hl 2 rfl) ?_
        refine xv_i (i := i) (As := [.int (xI a)]) (rest := []) ⟨hx, hb, hml, hown, hts⟩ hl.1 (c_X2_signThere l D cA n ad en (by omega) hr a (by omega)) k_X2_signThere u_ml_RX2_23 hK hN hP (by omega) hr.1 rfl rfl rfl rfl (Nat.le_of_ble_eq_true rfl) ⟨Nat.le_of_ble_eq_true rfl, Nat.le_of_ble_eq_true rfl⟩ ⟨Nat.le_of_ble_eq_true rfl, Nat.le_of_ble_eq_true rfl⟩ dX2_signBackward_17 ?_
        refine lv_iload_n hx hb dX2_signBackward_20 rfl (lv_at hl 1 rfl) ?_
        refine x_icmp_ne (tgt := 26) hx hb dX2_signBackward_21 (by decide) (by have := hr.2.2.2 a.toNat (by omega); omega) (fun c_21 => ?_) (fun c_21 => ?_)
        · refine x_iinc (lv' := [(3, .int (xI (a + (-1)))), (0, .ref (ad i)), (1, .int (xI z1))]) (k := 2) hx hb dX2_signBackward_26 hl rfl (by decide) rfl (fun ls hl => ?_)
          refine lv_goto (tgt := 11) hx hb dX2_signBackward_29 (by decide) ?_
          exact ih (a + (-1)) (by omega) ((sp_rfind_f (P := (fun q : Int => f q.toNat = z1)) (by omega) c_21).symm.trans hF) (by omega)  ls (lv_sub hl [1, 2, 0] rfl)
        · refine lv_iload_n hx hb dX2_signBackward_24 rfl (lv_at hl 2 rfl) ?_
          exact xr_i hx hb hrt hlocks (by rw [← hF, sp_rfind_t (P := (fun q : Int => f q.toNat = z1)) (by omega) c_21]) dX2_signBackward_25
  exact L11 _ (min z2 ((m : Int) - 1)) (by omega) rfl (Nat.lt_succ_self _)  ls (lv_sub hl [1, 2, 0] rfl)

set_option maxRecDepth 20000 in
theorem c_X2_against (l : Launch) (D : va_G) (cA : Nat → ClassId) (n : Nat) (ad : Nat → Nat) (en : Nat → va_E) {i m : Nat} {f : Nat → Int} (hi : i + 1 < n) (hr : XR cA ad en i m f) {j k : Nat} {h : Nat → Int} (hj : j + 1 < n) (hq : XR cA ad en j k h) : Met l yX2_against (Cond.code yX2_against cX2_against 5 (some .int) :: xU) (xrm 2 42) (va_Pc [.ref (ad i), .ref (ad j)] (xB D cA n ad en)) (vp_Si (fun z => z = xI (sp_ord f h ((m : Int) - (k : Int)) 0 (min (m : Int) (k : Int))))) 0 0 (fun _ => False) := by
  refine xmet (by decide) (Nat.le_of_ble_eq_true rfl) (fun p e s mm args below meth c ls hx hb hrt hml hown hts hlocks hname hB hl => ?_)
  obtain ⟨hP, hK, hN⟩ := hB
  have hl : lv_has ls 5 [(0, .ref (ad i)), (1, .ref (ad j))] := hl
  have hm := hr.2.2.1
  have hm2 := hq.2.2.1
  refine lv_aload_n hx hb dX2_against_0 rfl (lv_at hl 0 rfl) ?_
  refine x_get (T := TX2) (N := 2) hx hb hts uX2 hown hK hP (i := i) (by omega) hr.1 rfl 1 (by decide) u_fl_RX2_15 rfl dX2_against_1 ?_
  refine lv_aload_n hx hb dX2_against_4 rfl (lv_at hl 1 rfl) ?_
  refine x_get (T := TX2) (N := 2) hx hb hts uX2 hown hK hP (i := j) (by omega) hq.1 rfl 1 (by decide) u_fl_RX2_15 rfl dX2_against_5 ?_
  refine x_min hx hb (hml.trans hl.1.symm) hts hown u_ml_RX2_49 (Nat.le_of_ble_eq_true rfl) (Nat.le_of_ble_eq_true rfl) (Nat.le_of_ble_eq_true rfl) (Nat.le_of_ble_eq_true rfl) (r := (min (m : Int) (k : Int))) (by omega) (by omega) dX2_against_8 ?_
  refine lv_istore_n (lv' := [(2, .int (xI (min (m : Int) (k : Int)))), (0, .ref (ad i)), (1, .ref (ad j))]) hx hb dX2_against_11 rfl hl (by decide) rfl (fun ls hl => ?_)
  refine x_iconst hx hb dX2_against_12 ?_
  refine lv_istore_n (lv' := [(3, .int (xI 0)), (2, .int (xI (min (m : Int) (k : Int)))), (0, .ref (ad i)), (1, .ref (ad j))]) hx hb dX2_against_13 rfl hl (by decide) rfl (fun ls hl => ?_)
  have L14 : ∀ (nn : Nat) (a : Int), (0 ≤ a ∧ a ≤ min (m : Int) (k : Int)) → (sp_ord f h ((m : Int) - (k : Int)) a (min (m : Int) (k : Int)) = sp_ord f h ((m : Int) - (k : Int)) 0 (min (m : Int) (k : Int))) → ((min (m : Int) (k : Int) - a).toNat) < nn → ∀ ls : Array Slot, lv_has ls 5 [(0, .ref (ad i)), (1, .ref (ad j)), (2, .int (xI (min (m : Int) (k : Int)))), (3, .int (xI a))] → W p l e (xrm 2 42) s mm args below meth c s.heap [] 0 0 (MQ below (vp_Si (fun z => z = xI (sp_ord f h ((m : Int) - (k : Int)) 0 (min (m : Int) (k : Int))))) args s 0 0 (fun _ => False)) (F0 mm 14 ls []) := by
    intro nn
    induction nn with
    | zero =>
      intro a  ha hF hmm  ls hl
      exact absurd hmm (Nat.not_lt_zero _)
    | succ nn ih =>
      intro a  ha hF hmm  ls hl
      refine lv_iload_n hx hb dX2_against_14 rfl (lv_at hl 3 rfl) ?_
      refine lv_iload_n hx hb dX2_against_15 rfl (lv_at hl 2 rfl) ?_
      refine x_icmp_ge (tgt := 46) hx hb dX2_against_16 (by decide) (by omega) (fun c_16 => ?_) (fun c_16 => ?_)
      · refine lv_aload_n hx hb dX2_against_46 rfl (lv_at hl 0 rfl) ?_
        refine x_get (T := TX2) (N := 2) hx hb hts uX2 hown hK hP (i := i) (by omega) hr.1 rfl 1 (by decide) u_fl_RX2_15 rfl dX2_against_47 ?_
        refine lv_aload_n hx hb dX2_against_50 rfl (lv_at hl 1 rfl) ?_
        refine x_get (T := TX2) (N := 2) hx hb hts uX2 hown hK hP (i := j) (by omega) hq.1 rfl 1 (by decide) u_fl_RX2_15 rfl dX2_against_51 ?_
        refine x_isub hx hb dX2_against_54 ?_
        exact xr_i hx hb hrt hlocks (by rw [← hF, sp_ord_e (by omega)]) dX2_against_55
      · refine lv_aload_n hx hb dX2_against_19 rfl (lv_at hl 0 rfl) ?_
        refine lv_iload_n hx hb dX2_against_20 rfl (lv_at hl 3 rfl) ?_
        refine xv_i (i := i) (As := [.int (xI a)]) (rest := []) ⟨hx, hb, hml, hown, hts⟩ hl.1 (c_X2_signThere l D cA n ad en (by omega) hr a (by omega)) k_X2_signThere u_ml_RX2_23 hK hN hP (by omega) hr.1 rfl rfl rfl rfl (Nat.le_of_ble_eq_true rfl) ⟨Nat.le_of_ble_eq_true rfl, Nat.le_of_ble_eq_true rfl⟩ ⟨Nat.le_of_ble_eq_true rfl, Nat.le_of_ble_eq_true rfl⟩ dX2_against_21 ?_
        refine lv_aload_n hx hb dX2_against_24 rfl (lv_at hl 1 rfl) ?_
        refine lv_iload_n hx hb dX2_against_25 rfl (lv_at hl 3 rfl) ?_
        refine xv_i (i := j) (As := [.int (xI a)]) (rest := [.int (xI (f (Int.toNat a)))]) ⟨hx, hb, hml, hown, hts⟩ hl.1 (c_X2_signThere l D cA n ad en (by omega) hq a (by omega)) k_X2_signThere u_ml_RX2_23 hK hN hP (by omega) hq.1 rfl rfl rfl rfl (Nat.le_of_ble_eq_true rfl) ⟨Nat.le_of_ble_eq_true rfl, Nat.le_of_ble_eq_true rfl⟩ ⟨Nat.le_of_ble_eq_true rfl, Nat.le_of_ble_eq_true rfl⟩ dX2_against_26 ?_
        refine x_isub hx hb dX2_against_29 ?_
        refine lv_istore (lv' := [(4, .int (xI ((f (Int.toNat a)) - (h (Int.toNat a))))), (0, .ref (ad i)), (1, .ref (ad j)), (2, .int (xI (min (m : Int) (k : Int)))), (3, .int (xI a))]) hx hb dX2_against_30 hl (by decide) rfl (fun ls hl => ?_)
        refine lv_iload hx hb dX2_against_32 (lv_at hl 0 rfl) ?_
        refine x_if_eq (tgt := 40) hx hb dX2_against_34 (by decide) (by have := hr.2.2.2 a.toNat (by omega); have := hq.2.2.2 a.toNat (by omega); omega) (fun c_34 => ?_) (fun c_34 => ?_)
        · refine x_iinc (lv' := [(3, .int (xI (a + 1))), (4, .int (xI ((f (Int.toNat a)) - (h (Int.toNat a))))), (0, .ref (ad i)), (1, .ref (ad j)), (2, .int (xI (min (m : Int) (k : Int))))]) (k := 4) hx hb dX2_against_40 hl rfl (by decide) rfl (fun ls hl => ?_)
          refine lv_goto (tgt := 14) hx hb dX2_against_43 (by decide) ?_
          exact ih (a + 1) (by omega) ((sp_ord_t (by omega) (by omega) (by omega)).symm.trans hF) (by omega)  ls (lv_sub hl [2, 3, 4, 0] rfl)
        · refine lv_iload hx hb dX2_against_37 (lv_at hl 0 rfl) ?_
          exact xr_i hx hb hrt hlocks (by rw [← hF, sp_ord_f (by omega) (by omega)]) dX2_against_39
  exact L14 _ 0 (by omega) rfl (Nat.lt_succ_self _)  ls (lv_sub hl [2, 3, 1, 0] rfl)

set_option maxRecDepth 20000 in
theorem c_X2_blanksAhead (l : Launch) (D : va_G) (cA : Nat → ClassId) (n : Nat) (ad : Nat → Nat) (en : Nat → va_E) {i m : Nat} {f : Nat → Int} (hi : i + 1 < n) (hr : XR cA ad en i m f) : Met l yX2_blanksAhead (Cond.code yX2_blanksAhead cX2_blanksAhead 2 (some .int) :: xU) (xrm 2 42) (va_Pc [.ref (ad i)] (xB D cA n ad en)) (vp_Si (fun z => z = xI (sp_while (fun q : Int => f q.toNat ≤ 32) 0 (m : Int)))) 0 0 (fun _ => False) := by
  refine xmet (by decide) (Nat.le_of_ble_eq_true rfl) (fun p e s mm args below meth c ls hx hb hrt hml hown hts hlocks hname hB hl => ?_)
  obtain ⟨hP, hK, hN⟩ := hB
  have hl : lv_has ls 2 [(0, .ref (ad i))] := hl
  have hm := hr.2.2.1
  refine x_iconst hx hb dX2_blanksAhead_0 ?_
  refine lv_istore_n (lv' := [(1, .int (xI 0)), (0, .ref (ad i))]) hx hb dX2_blanksAhead_1 rfl hl (by decide) rfl (fun ls hl => ?_)
  have L2 : ∀ (nn : Nat) (a : Int), (0 ≤ a ∧ a ≤ (m : Int)) → (sp_while (fun q : Int => f q.toNat ≤ 32) a (m : Int) = sp_while (fun q : Int => f q.toNat ≤ 32) 0 (m : Int)) → (((m : Int) - a).toNat) < nn → ∀ ls : Array Slot, lv_has ls 2 [(0, .ref (ad i)), (1, .int (xI a))] → W p l e (xrm 2 42) s mm args below meth c s.heap [] 0 0 (MQ below (vp_Si (fun z => z = xI (sp_while (fun q : Int => f q.toNat ≤ 32) 0 (m : Int)))) args s 0 0 (fun _ => False)) (F0 mm 2 ls []) := by
    intro nn
    induction nn with
    | zero =>
      intro a  ha hF hmm  ls hl
      exact absurd hmm (Nat.not_lt_zero _)
    | succ nn ih =>
      intro a  ha hF hmm  ls hl
      refine lv_iload_n hx hb dX2_blanksAhead_2 rfl (lv_at hl 1 rfl) ?_
      refine lv_aload_n hx hb dX2_blanksAhead_3 rfl (lv_at hl 0 rfl) ?_
      refine x_get (T := TX2) (N := 2) hx hb hts uX2 hown hK hP (i := i) (by omega) hr.1 rfl 1 (by decide) u_fl_RX2_15 rfl dX2_blanksAhead_4 ?_
      refine x_icmp_ge (tgt := 26) hx hb dX2_blanksAhead_7 (by decide) (by omega) (fun c_7 => ?_) (fun c_7 => ?_)
      · refine lv_iload_n hx hb dX2_blanksAhead_26 rfl (lv_at hl 1 rfl) ?_
        exact xr_i hx hb hrt hlocks (by rw [← hF, sp_while_e (by omega)]) dX2_blanksAhead_27
      · refine lv_aload_n hx hb dX2_blanksAhead_10 rfl (lv_at hl 0 rfl) ?_
        refine lv_iload_n hx hb dX2_blanksAhead_11 rfl (lv_at hl 1 rfl) ?_
        refine xv_i (i := i) (As := [.int (xI a)]) (rest := []) ⟨hx, hb, hml, hown, hts⟩ hl.1 (c_X2_signThere l D cA n ad en (by omega) hr a (by omega)) k_X2_signThere u_ml_RX2_23 hK hN hP (by omega) hr.1 rfl rfl rfl rfl (Nat.le_of_ble_eq_true rfl) ⟨Nat.le_of_ble_eq_true rfl, Nat.le_of_ble_eq_true rfl⟩ ⟨Nat.le_of_ble_eq_true rfl, Nat.le_of_ble_eq_true rfl⟩ dX2_blanksAhead_12 ?_
        refine x_bipush hx hb dX2_blanksAhead_15 (by decide +kernel) ?_
        refine x_icmp_gt (tgt := 26) hx hb dX2_blanksAhead_17 (by decide) (by have := hr.2.2.2 a.toNat (by omega); omega) (fun c_17 => ?_) (fun c_17 => ?_)
        · refine lv_iload_n hx hb dX2_blanksAhead_26 rfl (lv_at hl 1 rfl) ?_
          exact xr_i hx hb hrt hlocks (by rw [← hF, sp_while_f (P := (fun q : Int => f q.toNat ≤ 32)) (by omega) (by show ¬ (f a.toNat ≤ 32); omega)]) dX2_blanksAhead_27
        · refine x_iinc (lv' := [(1, .int (xI (a + 1))), (0, .ref (ad i))]) (k := 1) hx hb dX2_blanksAhead_20 hl rfl (by decide) rfl (fun ls hl => ?_)
          refine lv_goto (tgt := 2) hx hb dX2_blanksAhead_23 (by decide) ?_
          exact ih (a + 1) (by omega) ((sp_while_t (P := (fun q : Int => f q.toNat ≤ 32)) (by omega) c_17).symm.trans hF) (by omega)  ls (lv_sub hl [1, 0] rfl)
  exact L2 _ 0 (by omega) rfl (Nat.lt_succ_self _)  ls (lv_sub hl [1, 0] rfl)

set_option maxRecDepth 20000 in
theorem c_X2_endBeforeBlanks (l : Launch) (D : va_G) (cA : Nat → ClassId) (n : Nat) (ad : Nat → Nat) (en : Nat → va_E) {i m : Nat} {f : Nat → Int} (hi : i + 1 < n) (hr : XR cA ad en i m f) (z1 : Int) (hz1 : 0 ≤ z1 ∧ z1 ≤ (m : Int)) : Met l yX2_endBeforeBlanks (Cond.code yX2_endBeforeBlanks cX2_endBeforeBlanks 3 (some .int) :: xU) (xrm 2 42) (va_Pc [.ref (ad i), .int (xI z1)] (xB D cA n ad en)) (vp_Si (fun z => z = xI (sp_back (fun q : Int => f q.toNat ≤ 32) z1 (m : Int)))) 0 0 (fun _ => False) := by
  refine xmet (by decide) (Nat.le_of_ble_eq_true rfl) (fun p e s mm args below meth c ls hx hb hrt hml hown hts hlocks hname hB hl => ?_)
  obtain ⟨hP, hK, hN⟩ := hB
  have hl : lv_has ls 3 [(0, .ref (ad i)), (1, .int (xI z1))] := hl
  have hm := hr.2.2.1
  refine lv_aload_n hx hb dX2_endBeforeBlanks_0 rfl (lv_at hl 0 rfl) ?_
  refine x_get (T := TX2) (N := 2) hx hb hts uX2 hown hK hP (i := i) (by omega) hr.1 rfl 1 (by decide) u_fl_RX2_15 rfl dX2_endBeforeBlanks_1 ?_
  refine lv_istore_n (lv' := [(2, .int (xI (m : Int))), (0, .ref (ad i)), (1, .int (xI z1))]) hx hb dX2_endBeforeBlanks_4 rfl hl (by decide) rfl (fun ls hl => ?_)
  have L5 : ∀ (nn : Nat) (a : Int), (z1 ≤ a ∧ a ≤ (m : Int)) → (sp_back (fun q : Int => f q.toNat ≤ 32) z1 a = sp_back (fun q : Int => f q.toNat ≤ 32) z1 (m : Int)) → (a.toNat) < nn → ∀ ls : Array Slot, lv_has ls 3 [(0, .ref (ad i)), (1, .int (xI z1)), (2, .int (xI a))] → W p l e (xrm 2 42) s mm args below meth c s.heap [] 0 0 (MQ below (vp_Si (fun z => z = xI (sp_back (fun q : Int => f q.toNat ≤ 32) z1 (m : Int)))) args s 0 0 (fun _ => False)) (F0 mm 5 ls []) := by
    intro nn
    induction nn with
    | zero =>
      intro a  ha hF hmm  ls hl
      exact absurd hmm (Nat.not_lt_zero _)
    | succ nn ih =>
      intro a  ha hF hmm  ls hl
      refine lv_iload_n hx hb dX2_endBeforeBlanks_5 rfl (lv_at hl 2 rfl) ?_
      refine lv_iload_n hx hb dX2_endBeforeBlanks_6 rfl (lv_at hl 1 rfl) ?_
      refine x_icmp_le (tgt := 28) hx hb dX2_endBeforeBlanks_7 (by decide) (by omega) (fun c_7 => ?_) (fun c_7 => ?_)
      · refine lv_iload_n hx hb dX2_endBeforeBlanks_28 rfl (lv_at hl 2 rfl) ?_
        exact xr_i hx hb hrt hlocks (by rw [← hF, sp_back_e (by omega)]; exact congrArg xI (by omega)) dX2_endBeforeBlanks_29
      · refine lv_aload_n hx hb dX2_endBeforeBlanks_10 rfl (lv_at hl 0 rfl) ?_
        refine lv_iload_n hx hb dX2_endBeforeBlanks_11 rfl (lv_at hl 2 rfl) ?_
        refine x_iconst hx hb dX2_endBeforeBlanks_12 ?_
        refine x_isub hx hb dX2_endBeforeBlanks_13 ?_
        refine xv_i (i := i) (As := [.int (xI (a - 1))]) (rest := []) ⟨hx, hb, hml, hown, hts⟩ hl.1 (c_X2_signThere l D cA n ad en (by omega) hr (a - 1) (by omega)) k_X2_signThere u_ml_RX2_23 hK hN hP (by omega) hr.1 rfl rfl rfl rfl (Nat.le_of_ble_eq_true rfl) ⟨Nat.le_of_ble_eq_true rfl, Nat.le_of_ble_eq_true rfl⟩ ⟨Nat.le_of_ble_eq_true rfl, Nat.le_of_ble_eq_true rfl⟩ dX2_endBeforeBlanks_14 ?_
        refine x_bipush hx hb dX2_endBeforeBlanks_17 (by decide +kernel) ?_
        refine x_icmp_gt (tgt := 28) hx hb dX2_endBeforeBlanks_19 (by decide) (by have := hr.2.2.2 (Int.toNat (a - 1)) (by omega); omega) (fun c_19 => ?_) (fun c_19 => ?_)
        · refine lv_iload_n hx hb dX2_endBeforeBlanks_28 rfl (lv_at hl 2 rfl) ?_
          exact xr_i hx hb hrt hlocks (by rw [← hF, sp_back_f (P := (fun q : Int => f q.toNat ≤ 32)) (by omega) (by show ¬ (f (Int.toNat (a - 1)) ≤ 32); omega)]) dX2_endBeforeBlanks_29
        · refine x_iinc (lv' := [(2, .int (xI (a + (-1)))), (0, .ref (ad i)), (1, .int (xI z1))]) (k := 2) hx hb dX2_endBeforeBlanks_22 hl rfl (by decide) rfl (fun ls hl => ?_)
          refine lv_goto (tgt := 5) hx hb dX2_endBeforeBlanks_25 (by decide) ?_
          exact ih (a + (-1)) (by omega) ((sp_back_t (P := (fun q : Int => f q.toNat ≤ 32)) (by omega) (by show f (Int.toNat (a - 1)) ≤ 32; omega)).symm.trans hF) (by omega)  ls (lv_sub hl [1, 2, 0] rfl)
  exact L5 _ (m : Int) (by omega) rfl (Nat.lt_succ_self _)  ls (lv_sub hl [1, 2, 0] rfl)
end
section
/-! texts, parts, cutters: their cells -/
theorem XT.any {cA : Nat → ClassId} {ad : Nat → Nat} {en : Nat → va_E} {i : Nat} {o : Option xRow} (h : XT cA ad en i o) : ∃ (z : Int) (m : Nat) (f : Nat → Int), en i = .inr (3, [.ref (ad (i + 1)), .int (xI z)]) ∧ XR cA ad en (i + 1) m f := by
  cases o with
  | none => exact ⟨_, _, _, h.1, h.2.choose_spec.choose_spec⟩
  | some r => exact ⟨_, _, _, h.1, h.2⟩
/-- a cutter's cells -/
def XK (cA : Nat → ClassId) (ad : Nat → Nat) (en : Nat → va_E) (i m : Nat) (f : Nat → Int) (S : Int → Prop) (G : Prop) (z pl : Int) : Prop :=
  en i = .inr (0, [.ref (ad (i + 1)), .ref (ad (i + 3)), .int (xb G), .int (xI z), .int (xI pl)]) ∧ XR cA ad en (i + 1) m f ∧ ∃ g : Nat → Int32, en (i + 3) = .inl (cA 1, 256, .inl g) ∧ ∀ k : Nat, k < 256 → g k = xb (S k)
theorem XK.ko {cA : Nat → ClassId} {ad : Nat → Nat} {en en' : Nat → va_E} {i m a b : Nat} {f : Nat → Int} {S : Int → Prop} {G : Prop} {z pl : Int} (h : XK cA ad en i m f S G z pl) (ho : xO a b en en') (hi : i + 3 < a ∨ b ≤ i) : XK cA ad en' i m f S G z pl := by
  obtain ⟨h1, h2, g, h3, h4⟩ := h
  exact ⟨(ho i (by omega)).trans h1, h2.ko ho (by omega), g, (ho _ (by omega)).trans h3, h4⟩
/-- the parts' cells but for their row -/
def XP0 (cA : Nat → ClassId) (ad : Nat → Nat) (en : Nat → va_E) (pn : Nat) (ps pe : Nat → Nat) : Prop :=
  en 4 = .inr (1, [.ref (ad 5), .ref (ad 7), .ref (ad 8), .int (xI pn)]) ∧ (∃ g : Nat → Int32, en 7 = .inl (cA 0, 201, .inl g) ∧ ∀ k : Nat, k < pn → g k = xI (ps k)) ∧ (∃ g : Nat → Int32, en 8 = .inl (cA 0, 201, .inl g) ∧ ∀ k : Nat, k < pn → g k = xI (pe k)) ∧ pn ≤ 201
theorem XP0.ko {cA : Nat → ClassId} {ad : Nat → Nat} {en en' : Nat → va_E} {pn a b : Nat} {ps pe : Nat → Nat} (h : XP0 cA ad en pn ps pe) (ho : xO a b en en') (hi : 8 < a ∨ b ≤ 4 ∨ (4 < a ∧ b ≤ 7)) : XP0 cA ad en' pn ps pe := by
  obtain ⟨h1, ⟨g, h2, h3⟩, ⟨g2, h4, h5⟩, h6⟩ := h
  exact ⟨(ho 4 (by omega)).trans h1, ⟨g, (ho 7 (by omega)).trans h2, h3⟩, ⟨g2, (ho 8 (by omega)).trans h4, h5⟩, h6⟩
theorem XP.to0 {cA : Nat → ClassId} {ad : Nat → Nat} {en : Nat → va_E} {P : xPts} (h : XP cA ad en P) : XP0 cA ad en P.1 P.2.1 P.2.2.1 := ⟨h.1, h.2.2.1, h.2.2.2.1, h.2.2.2.2.1⟩

set_option maxRecDepth 20000 in
theorem c_X3_become (l : Launch) (D : va_G) (cA : Nat → ClassId) (n : Nat) (ad : Nat → Nat) (en : Nat → va_E) (sz : Nat) {i : Nat} {o : Option xRow} (hi : i + 2 < n) (hT : XT cA ad en i o) {j k : Nat} {h : Nat → Int} (hj : j + 1 < n) (hq : XR cA ad en j k h) (hij : j = i + 1 ∨ j + 1 < i ∨ i + 2 < j) (z1 z2 : Int) (hz1 : -2147483648 ≤ z1 ∧ z1 ≤ 2147483647) (hz2 : -2147483648 ≤ z2 ∧ z2 ≤ 2147483647) : Met l yX3_become (Cond.code yX3_become cX3_become 5 (some .int) :: xU) (xrm 2 49) (va_Pc [.ref (ad i), .ref (ad j), .int (xI z1), .int (xI z2)] (xM D cA n ad en sz)) (va_Qi (fun r u => ((0 ≤ z1 ∧ z1 ≤ z2 ∧ z2 ≤ (k : Int)) ∧ r = xI (z2 - z1) ∧ XT cA ad u i (some ((z2 - z1).toNat, fun t => h (z1.toNat + t))) ∧ xO i (i + 3) en u) ∨ (¬ (0 ≤ z1 ∧ z1 ≤ z2 ∧ z2 ≤ (k : Int)) ∧ r = xI (-1005) ∧ u = en)) (xE D n ad) (xA n ad sz)) 0 0 (xA n ad sz) := by
  refine xmet (by decide) (Nat.le_of_ble_eq_true rfl) (fun p e s mm args below meth c ls hx hb hrt hml hown hts hlocks hname hB hl => ?_)
  obtain ⟨⟨hP, hK, hN⟩, hsz, hDt⟩ := hB
  have hD : xD (xA n ad sz) n ad := xD_self hDt sz
  have hA : ∀ q : Nat, s.heap.size ≤ q → xA n ad sz q := fun q h => Or.inr (by rw [← hsz]; exact h)
  have hS : va_S (xA n ad sz) s.heap s.heap [] := va_S.rf
  have hown : s.vm.findClass RX3 = some mm.cls := hown
  have hl : lv_has ls 5 [(0, .ref (ad i)), (1, .ref (ad j)), (2, .int (xI z1)), (3, .int (xI z2))] := hl
  obtain ⟨zm, m, f, hT1, hr⟩ := hT.any
  have hm2 := hq.2.2.1
  refine lv_aload_n hx hb dX3_become_0 rfl (lv_at hl 0 rfl) ?_
  refine x_get (T := TX3) (N := 2) hx hb hts uX3 hown hK hP (i := i) (by omega) hT1 rfl 0 (by decide) u_fl_RX3_10 rfl dX3_become_1 ?_
  refine lv_aload_n hx hb dX3_become_4 rfl (lv_at hl 1 rfl) ?_
  refine lv_iload_n hx hb dX3_become_5 rfl (lv_at hl 2 rfl) ?_
  refine lv_iload_n hx hb dX3_become_6 rfl (lv_at hl 3 rfl) ?_
  refine xm_i (i := i + 1) (As := [.ref (ad j), .int (xI z1), .int (xI z2)]) (rest := []) ⟨hx, hb, hml, hown, hts⟩ hl.1 (c_X2_copy l D cA n ad en _ (by omega) hr hj hq (by omega) z1 z2 hz1 hz2) k_X2_copy u_ml_RX3_20 hK hN hP (by omega) hr.1 rfl rfl rfl rfl (Nat.le_of_ble_eq_true rfl) ⟨Nat.le_of_ble_eq_true rfl, Nat.le_of_ble_eq_true rfl⟩ ⟨Nat.le_of_ble_eq_true rfl, Nat.le_of_ble_eq_true rfl⟩ dX3_become_7 hD hS hA (fun r1 en1 H locs hp1 hP hS => ?_)
  rcases hp1 with ⟨hsp, hrv, hx1, ho⟩ | ⟨hsp, hrv, hu⟩
  · subst hrv
    have hT1 := (ho i (by omega)).trans hT1
    refine lv_istore (lv' := [(4, .int (xI (z2 - z1))), (0, .ref (ad i)), (1, .ref (ad j)), (2, .int (xI z1)), (3, .int (xI z2))]) hx hb dX3_become_10 hl (by decide) rfl (fun ls hl => ?_)
    refine lv_iload hx hb dX3_become_12 (lv_at hl 0 rfl) ?_
    refine x_if_lt (tgt := 22) hx hb dX3_become_14 (by decide) (by omega) (fun c_14 => absurd c_14 (by omega)) (fun c_14 => ?_)
    refine lv_aload_n hx hb dX3_become_17 rfl (lv_at hl 1 rfl) ?_
    refine x_iconst hx hb dX3_become_18 ?_
    refine x_put (T := TX3) (N := 2) (ty := .boolean) hx hb hts uX3 tyX3 tyX3_ok nmX3 hown hK hP hD hS (i := i) (by omega) hT1 rfl 1 (by decide) u_fl_RX3_16 rfl (by decide +kernel) (by first | exact xb_nar _ | decide +kernel) (by first | exact xb_fit _ | decide +kernel) (by show 1 < 2; decide) dX3_become_19 (fun H locs hP hS => ?_)
    have hP : va_P D vwCl (xw n ad (va_up en1 i (.inr (3, [.ref (ad (i + 1)), .int (xI 0)])))) H := hP
    obtain ⟨en2, he2⟩ : ∃ z, z = va_up en1 i (.inr (3, [.ref (ad (i + 1)), .int (xI 0)])) := ⟨_, rfl⟩
    rw [← he2] at hP
    have ho2 : en2 i = (.inr (3, [.ref (ad (i + 1)), .int (xI 0)])) := by rw [he2, va_up_self]
    refine lv_iload hx hb dX3_become_22 (lv_at hl 0 rfl) ?_
    subst he2
    exact xe_i hx hb hrt hlocks hP hS (Or.inl ⟨hsp, rfl, ⟨va_up_self _ _ _, hx1.kp (va_up_ne _ _ (by omega)) (va_up_ne _ _ (by omega))⟩, (ho.mo (by omega) (by omega)).up (by omega) (by omega)⟩) dX3_become_24
  · subst hrv
    rw [hu] at hP
    refine lv_istore (lv' := [(4, .int (xI (-1005))), (0, .ref (ad i)), (1, .ref (ad j)), (2, .int (xI z1)), (3, .int (xI z2))]) hx hb dX3_become_10 hl (by decide) rfl (fun ls hl => ?_)
    refine lv_iload hx hb dX3_become_12 (lv_at hl 0 rfl) ?_
    refine x_if_lt (tgt := 22) hx hb dX3_become_14 (by decide) (by omega) (fun c_14 => ?_) (fun c_14 => absurd c_14 (by omega))
    refine lv_iload hx hb dX3_become_22 (lv_at hl 0 rfl) ?_
    exact xe_i hx hb hrt hlocks hP hS (Or.inr ⟨hsp, rfl, rfl⟩) dX3_become_24

set_option maxRecDepth 20000 in
theorem c_X1_has (l : Launch) (D : va_G) (cA : Nat → ClassId) (n : Nat) (ad : Nat → Nat) (en : Nat → va_E) {pn : Nat} {ps pe : Nat → Nat} (hn : 9 ≤ n) (hp0 : XP0 cA ad en pn ps pe) (z1 : Int) (hz1 : -2147483648 ≤ z1 ∧ z1 ≤ 2147483647) : Met l yX1_has (Cond.code yX1_has cX1_has 2 (some .boolean) :: xU) (xrm 0 0) (va_Pc [.ref (ad 4), .int (xI z1)] (xB D cA n ad en)) (vp_Si (fun z => z = xb (0 ≤ z1 ∧ z1 < (pn : Int)))) 0 0 (fun _ => False) := by
  refine xmet (by decide) (Nat.le_of_ble_eq_true rfl) (fun p e s mm args below meth c ls hx hb hrt hml hown hts hlocks hname hB hl => ?_)
  obtain ⟨hP, hK, hN⟩ := hB
  have hl : lv_has ls 2 [(0, .ref (ad 4)), (1, .int (xI z1))] := hl
  have hpn := hp0.2.2.2
  refine lv_iload_n hx hb dX1_has_0 rfl (lv_at hl 1 rfl) ?_
  refine x_if_lt (tgt := 16) hx hb dX1_has_1 (by decide) (by omega) (fun c_1 => ?_) (fun c_1 => ?_)
  · refine x_iconst hx hb dX1_has_16 ?_
    exact xr_z hx hb hrt hlocks (xb_0 (by omega)) dX1_has_17
  · refine lv_iload_n hx hb dX1_has_4 rfl (lv_at hl 1 rfl) ?_
    refine lv_aload_n hx hb dX1_has_5 rfl (lv_at hl 0 rfl) ?_
    refine x_get (T := TX1) (N := 4) hx hb hts uX1 hown hK hP (i := 4) (by omega) hp0.1 rfl 3 (by decide) u_fl_RX1_25 rfl dX1_has_6 ?_
    refine x_icmp_ge (tgt := 16) hx hb dX1_has_9 (by decide) (by omega) (fun c_9 => ?_) (fun c_9 => ?_)
    · refine x_iconst hx hb dX1_has_16 ?_
      exact xr_z hx hb hrt hlocks (xb_0 (by omega)) dX1_has_17
    · refine x_iconst hx hb dX1_has_12 ?_
      refine lv_goto (tgt := 17) hx hb dX1_has_13 (by decide) ?_
      exact xr_z hx hb hrt hlocks (xb_1 (by omega)) dX1_has_17

set_option maxRecDepth 20000 in
theorem c_X1_start (l : Launch) (D : va_G) (cA : Nat → ClassId) (n : Nat) (ad : Nat → Nat) (en : Nat → va_E) {pn : Nat} {ps pe : Nat → Nat} (hn : 9 ≤ n) (hp0 : XP0 cA ad en pn ps pe) (hb1 : ∀ k : Nat, k < pn → ps k ≤ 200) (z1 : Int) (h1 : 0 ≤ z1 ∧ z1 < (pn : Int)) : Met l yX1_start (Cond.code yX1_start cX1_start 2 (some .int) :: xU) (xrm 1 21) (va_Pc [.ref (ad 4), .int (xI z1)] (xB D cA n ad en)) (vp_Si (fun z => z = xI ((ps z1.toNat : Nat) : Int))) 0 0 (fun _ => False) := by
  refine xmet (by decide) (Nat.le_of_ble_eq_true rfl) (fun p e s mm args below meth c ls hx hb hrt hml hown hts hlocks hname hB hl => ?_)
  obtain ⟨hP, hK, hN⟩ := hB
  have hl : lv_has ls 2 [(0, .ref (ad 4)), (1, .int (xI z1))] := hl
  have hpn := hp0.2.2.2
  obtain ⟨g, hg1, hg2⟩ := hp0.2.1
  refine lv_aload_n hx hb dX1_start_0 rfl (lv_at hl 0 rfl) ?_
  refine lv_iload_n hx hb dX1_start_1 rfl (lv_at hl 1 rfl) ?_
  refine xv_i (i := 4) (As := [.int (xI z1)]) (rest := []) ⟨hx, hb, hml, hown, hts⟩ hl.1 (c_X1_has l D cA n ad en (by omega) hp0 z1 (by omega)) k_X1_has u_ml_RX1_29 hK hN hP (by omega) hp0.1 rfl rfl rfl rfl (Nat.le_of_ble_eq_true rfl) ⟨Nat.le_of_ble_eq_true rfl, Nat.le_of_ble_eq_true rfl⟩ ⟨Nat.le_of_ble_eq_true rfl, Nat.le_of_ble_eq_true rfl⟩ dX1_start_2 ?_
  refine x_ifb_eq (tgt := 17) hx hb dX1_start_5 (by decide)  (fun c_5 => absurd h1 c_5) (fun c_5 => ?_)
  refine lv_aload_n hx hb dX1_start_8 rfl (lv_at hl 0 rfl) ?_
  refine x_get (T := TX1) (N := 4) hx hb hts uX1 hown hK hP (i := 4) (by omega) hp0.1 rfl 1 (by decide) u_fl_RX1_18 rfl dX1_start_9 ?_
  refine lv_iload_n hx hb dX1_start_12 rfl (lv_at hl 1 rfl) ?_
  refine x_ild hx hb hK hP (i := 7) (by omega) hg1 (x := ((ps (Int.toNat z1) : Nat) : Int)) (by omega) (hg2 _ (by omega)) dX1_start_13 ?_
  refine lv_goto (tgt := 18) hx hb dX1_start_14 (by decide) ?_
  exact xr_i hx hb hrt hlocks (rfl) dX1_start_18

set_option maxRecDepth 20000 in
theorem c_X1_end (l : Launch) (D : va_G) (cA : Nat → ClassId) (n : Nat) (ad : Nat → Nat) (en : Nat → va_E) {pn : Nat} {ps pe : Nat → Nat} (hn : 9 ≤ n) (hp0 : XP0 cA ad en pn ps pe) (hb1 : ∀ k : Nat, k < pn → pe k ≤ 200) (z1 : Int) (h1 : 0 ≤ z1 ∧ z1 < (pn : Int)) : Met l yX1_end (Cond.code yX1_end cX1_end 2 (some .int) :: xU) (xrm 1 21) (va_Pc [.ref (ad 4), .int (xI z1)] (xB D cA n ad en)) (vp_Si (fun z => z = xI ((pe z1.toNat : Nat) : Int))) 0 0 (fun _ => False) := by
  refine xmet (by decide) (Nat.le_of_ble_eq_true rfl) (fun p e s mm args below meth c ls hx hb hrt hml hown hts hlocks hname hB hl => ?_)
  obtain ⟨hP, hK, hN⟩ := hB
  have hl : lv_has ls 2 [(0, .ref (ad 4)), (1, .int (xI z1))] := hl
  have hpn := hp0.2.2.2
  obtain ⟨g, hg1, hg2⟩ := hp0.2.2.1
  refine lv_aload_n hx hb dX1_end_0 rfl (lv_at hl 0 rfl) ?_
  refine lv_iload_n hx hb dX1_end_1 rfl (lv_at hl 1 rfl) ?_
  refine xv_i (i := 4) (As := [.int (xI z1)]) (rest := []) ⟨hx, hb, hml, hown, hts⟩ hl.1 (c_X1_has l D cA n ad en (by omega) hp0 z1 (by omega)) k_X1_has u_ml_RX1_29 hK hN hP (by omega) hp0.1 rfl rfl rfl rfl (Nat.le_of_ble_eq_true rfl) ⟨Nat.le_of_ble_eq_true rfl, Nat.le_of_ble_eq_true rfl⟩ ⟨Nat.le_of_ble_eq_true rfl, Nat.le_of_ble_eq_true rfl⟩ dX1_end_2 ?_
  refine x_ifb_eq (tgt := 17) hx hb dX1_end_5 (by decide)  (fun c_5 => absurd h1 c_5) (fun c_5 => ?_)
  refine lv_aload_n hx hb dX1_end_8 rfl (lv_at hl 0 rfl) ?_
  refine x_get (T := TX1) (N := 4) hx hb hts uX1 hown hK hP (i := 4) (by omega) hp0.1 rfl 2 (by decide) u_fl_RX1_22 rfl dX1_end_9 ?_
  refine lv_iload_n hx hb dX1_end_12 rfl (lv_at hl 1 rfl) ?_
  refine x_ild hx hb hK hP (i := 8) (by omega) hg1 (x := ((pe (Int.toNat z1) : Nat) : Int)) (by omega) (hg2 _ (by omega)) dX1_end_13 ?_
  refine lv_goto (tgt := 18) hx hb dX1_end_14 (by decide) ?_
  exact xr_i hx hb hrt hlocks (rfl) dX1_end_18

set_option maxRecDepth 20000 in
theorem c_X1_mayPart (l : Launch) (D : va_G) (cA : Nat → ClassId) (n : Nat) (ad : Nat → Nat) (en : Nat → va_E) {pn : Nat} {ps pe : Nat → Nat} (hn : 9 ≤ n) (hp0 : XP0 cA ad en pn ps pe) (z1 : Int) (hz1 : -2147483648 ≤ z1 ∧ z1 ≤ 2147483647) : Met l yX1_mayPart (Cond.code yX1_mayPart cX1_mayPart 2 (some .boolean) :: xU) (xrm 0 0) (va_Pc [.ref (ad 4), .int (xI z1)] (xB D cA n ad en)) (vp_Si (fun z => z = xb (z1 ≤ 0 ∨ (pn : Int) < z1 - 1))) 0 0 (fun _ => False) := by
  refine xmet (by decide) (Nat.le_of_ble_eq_true rfl) (fun p e s mm args below meth c ls hx hb hrt hml hown hts hlocks hname hB hl => ?_)
  obtain ⟨hP, hK, hN⟩ := hB
  have hl : lv_has ls 2 [(0, .ref (ad 4)), (1, .int (xI z1))] := hl
  have hpn := hp0.2.2.2
  refine lv_iload_n hx hb dX1_mayPart_0 rfl (lv_at hl 1 rfl) ?_
  refine x_if_le (tgt := 14) hx hb dX1_mayPart_1 (by decide) (by omega) (fun c_1 => ?_) (fun c_1 => ?_)
  · refine x_iconst hx hb dX1_mayPart_14 ?_
    refine lv_goto (tgt := 19) hx hb dX1_mayPart_15 (by decide) ?_
    exact xr_z hx hb hrt hlocks (xb_1 (by omega)) dX1_mayPart_19
  · refine lv_aload_n hx hb dX1_mayPart_4 rfl (lv_at hl 0 rfl) ?_
    refine x_get (T := TX1) (N := 4) hx hb hts uX1 hown hK hP (i := 4) (by omega) hp0.1 rfl 3 (by decide) u_fl_RX1_25 rfl dX1_mayPart_5 ?_
    refine lv_iload_n hx hb dX1_mayPart_8 rfl (lv_at hl 1 rfl) ?_
    refine x_iconst hx hb dX1_mayPart_9 ?_
    refine x_isub hx hb dX1_mayPart_10 ?_
    refine x_icmp_ge (tgt := 18) hx hb dX1_mayPart_11 (by decide) (by omega) (fun c_11 => ?_) (fun c_11 => ?_)
    · refine x_iconst hx hb dX1_mayPart_18 ?_
      exact xr_z hx hb hrt hlocks (xb_0 (by omega)) dX1_mayPart_19
    · refine x_iconst hx hb dX1_mayPart_14 ?_
      refine lv_goto (tgt := 19) hx hb dX1_mayPart_15 (by decide) ?_
      exact xr_z hx hb hrt hlocks (xb_1 (by omega)) dX1_mayPart_19

set_option maxRecDepth 20000 in
theorem c_X1_addPart (l : Launch) (D : va_G) (cA : Nat → ClassId) (n : Nat) (ad : Nat → Nat) (en : Nat → va_E) (sz : Nat) {pn : Nat} {ps pe : Nat → Nat} (hn : 9 ≤ n) (hp0 : XP0 cA ad en pn ps pe) (hlt : pn < 201) (a1 a2 : Nat) (h1 : a1 ≤ 200) (h2 : a2 ≤ 200) : Met l yX1_addPart (Cond.code yX1_addPart cX1_addPart 3 none :: xU) (xrm 0 0) (va_Pc [.ref (ad 4), .int (xI (a1 : Int)), .int (xI (a2 : Int))] (xM D cA n ad en sz)) (va_Qv (fun u => XP0 cA ad u (pn + 1) (sp_up ps pn a1) (sp_up pe pn a2) ∧ ∀ q : Nat, q ≠ 4 → q ≠ 7 → q ≠ 8 → u q = en q) (xE D n ad) (xA n ad sz)) 0 0 (xA n ad sz) := by
  refine xmet (by decide) (Nat.le_of_ble_eq_true rfl) (fun p e s mm args below meth c ls hx hb hrt hml hown hts hlocks hname hB hl => ?_)
  obtain ⟨⟨hP, hK, hN⟩, hsz, hDt⟩ := hB
  have hD : xD (xA n ad sz) n ad := xD_self hDt sz
  have hA : ∀ q : Nat, s.heap.size ≤ q → xA n ad sz q := fun q h => Or.inr (by rw [← hsz]; exact h)
  have hS : va_S (xA n ad sz) s.heap s.heap [] := va_S.rf
  have hown : s.vm.findClass RX1 = some mm.cls := hown
  have hl : lv_has ls 3 [(0, .ref (ad 4)), (1, .int (xI (a1 : Int))), (2, .int (xI (a2 : Int)))] := hl
  have hpn := hp0.2.2.2
  obtain ⟨g, hg1, hg2⟩ := hp0.2.1
  obtain ⟨w, hw1, hw2⟩ := hp0.2.2.1
  refine lv_aload_n hx hb dX1_addPart_0 rfl (lv_at hl 0 rfl) ?_
  refine x_get (T := TX1) (N := 4) hx hb hts uX1 hown hK hP (i := 4) (by omega) hp0.1 rfl 3 (by decide) u_fl_RX1_25 rfl dX1_addPart_1 ?_
  refine lv_aload_n hx hb dX1_addPart_4 rfl (lv_at hl 0 rfl) ?_
  refine x_get (T := TX1) (N := 4) hx hb hts uX1 hown hK hP (i := 4) (by omega) hp0.1 rfl 1 (by decide) u_fl_RX1_18 rfl dX1_addPart_5 ?_
  refine x_alen hx hb hK hP (i := 7) (by omega) 0 hg1 rfl dX1_addPart_8 ?_
  refine x_icmp_ge (tgt := 54) hx hb dX1_addPart_9 (by decide) (by omega) (fun c_9 => absurd c_9 (by omega)) (fun c_9 => ?_)
  refine lv_aload_n hx hb dX1_addPart_12 rfl (lv_at hl 0 rfl) ?_
  refine x_get (T := TX1) (N := 4) hx hb hts uX1 hown hK hP (i := 4) (by omega) hp0.1 rfl 3 (by decide) u_fl_RX1_25 rfl dX1_addPart_13 ?_
  refine lv_aload_n hx hb dX1_addPart_16 rfl (lv_at hl 0 rfl) ?_
  refine x_get (T := TX1) (N := 4) hx hb hts uX1 hown hK hP (i := 4) (by omega) hp0.1 rfl 2 (by decide) u_fl_RX1_22 rfl dX1_addPart_17 ?_
  refine x_alen hx hb hK hP (i := 8) (by omega) 0 hw1 rfl dX1_addPart_20 ?_
  refine x_icmp_ge (tgt := 54) hx hb dX1_addPart_21 (by decide) (by omega) (fun c_21 => absurd c_21 (by omega)) (fun c_21 => ?_)
  refine lv_aload_n hx hb dX1_addPart_24 rfl (lv_at hl 0 rfl) ?_
  refine x_get (T := TX1) (N := 4) hx hb hts uX1 hown hK hP (i := 4) (by omega) hp0.1 rfl 1 (by decide) u_fl_RX1_18 rfl dX1_addPart_25 ?_
  refine lv_aload_n hx hb dX1_addPart_28 rfl (lv_at hl 0 rfl) ?_
  refine x_get (T := TX1) (N := 4) hx hb hts uX1 hown hK hP (i := 4) (by omega) hp0.1 rfl 3 (by decide) u_fl_RX1_25 rfl dX1_addPart_29 ?_
  refine lv_iload_n hx hb dX1_addPart_32 rfl (lv_at hl 1 rfl) ?_
  refine x_ist hx hb hK hP hD hS (i := 7) (by omega) hg1 (by omega) dX1_addPart_33 (fun H locs hP hS => ?_)
  have hP : va_P D vwCl (xw n ad (va_up en 7 (.inl (cA 0, 201, .inl (upd g (Int.toNat (pn : Int)) (xI (a1 : Int))))))) H := hP
  obtain ⟨en1, he1⟩ : ∃ z, z = va_up en 7 (.inl (cA 0, 201, .inl (upd g (Int.toNat (pn : Int)) (xI (a1 : Int))))) := ⟨_, rfl⟩
  rw [← he1] at hP
  have ho1 : en1 7 = (.inl (cA 0, 201, .inl (upd g (Int.toNat (pn : Int)) (xI (a1 : Int))))) := by rw [he1, va_up_self]
  have hk2 := (show en1 4 = en 4 from by rw [he1, va_up_ne _ _ (by omega)]).trans hp0.1
  have hk3 := (show en1 8 = en 8 from by rw [he1, va_up_ne _ _ (by omega)]).trans hw1
  refine lv_aload_n hx hb dX1_addPart_34 rfl (lv_at hl 0 rfl) ?_
  refine x_get (T := TX1) (N := 4) hx hb hts uX1 hown hK hP (i := 4) (by omega) hk2 rfl 2 (by decide) u_fl_RX1_22 rfl dX1_addPart_35 ?_
  refine lv_aload_n hx hb dX1_addPart_38 rfl (lv_at hl 0 rfl) ?_
  refine x_get (T := TX1) (N := 4) hx hb hts uX1 hown hK hP (i := 4) (by omega) hk2 rfl 3 (by decide) u_fl_RX1_25 rfl dX1_addPart_39 ?_
  refine lv_iload_n hx hb dX1_addPart_42 rfl (lv_at hl 2 rfl) ?_
  refine x_ist hx hb hK hP hD hS (i := 8) (by omega) hk3 (by omega) dX1_addPart_43 (fun H locs hP hS => ?_)
  have hP : va_P D vwCl (xw n ad (va_up en1 8 (.inl (cA 0, 201, .inl (upd w (Int.toNat (pn : Int)) (xI (a2 : Int))))))) H := hP
  obtain ⟨en4, he4⟩ : ∃ z, z = va_up en1 8 (.inl (cA 0, 201, .inl (upd w (Int.toNat (pn : Int)) (xI (a2 : Int))))) := ⟨_, rfl⟩
  rw [← he4] at hP
  have ho4 : en4 8 = (.inl (cA 0, 201, .inl (upd w (Int.toNat (pn : Int)) (xI (a2 : Int))))) := by rw [he4, va_up_self]
  have hk5 := (show en4 4 = en1 4 from by rw [he4, va_up_ne _ _ (by omega)]).trans hk2
  have hk6 := (show en4 7 = en1 7 from by rw [he4, va_up_ne _ _ (by omega)]).trans ho1
  refine lv_aload_n hx hb dX1_addPart_44 rfl (lv_at hl 0 rfl) ?_
  refine lv_dup hx hb dX1_addPart_45 rfl ?_
  refine x_get (T := TX1) (N := 4) hx hb hts uX1 hown hK hP (i := 4) (by omega) hk5 rfl 3 (by decide) u_fl_RX1_25 rfl dX1_addPart_46 ?_
  refine x_iconst hx hb dX1_addPart_49 ?_
  refine x_iadd hx hb dX1_addPart_50 ?_
  refine x_put (T := TX1) (N := 4) (ty := .int) hx hb hts uX1 tyX1 tyX1_ok nmX1 hown hK hP hD hS (i := 4) (by omega) hk5 rfl 3 (by decide) u_fl_RX1_25 rfl (by decide +kernel) rfl rfl (by show 3 < 4; decide) dX1_addPart_51 (fun H locs hP hS => ?_)
  have hP : va_P D vwCl (xw n ad (va_up en4 4 (.inr (1, [.ref (ad 5), .ref (ad 7), .ref (ad 8), .int (xI ((pn : Int) + 1))])))) H := hP
  obtain ⟨en7, he7⟩ : ∃ z, z = va_up en4 4 (.inr (1, [.ref (ad 5), .ref (ad 7), .ref (ad 8), .int (xI ((pn : Int) + 1))])) := ⟨_, rfl⟩
  rw [← he7] at hP
  have ho7 : en7 4 = (.inr (1, [.ref (ad 5), .ref (ad 7), .ref (ad 8), .int (xI ((pn : Int) + 1))])) := by rw [he7, va_up_self]
  have hk8 := (show en7 7 = en4 7 from by rw [he7, va_up_ne _ _ (by omega)]).trans hk6
  have hk9 := (show en7 8 = en4 8 from by rw [he7, va_up_ne _ _ (by omega)]).trans ho4
  subst he7
  subst he4
  subst he1
  exact xe_v hx hb hrt hlocks hP hS (⟨⟨va_up_self _ _ _, ⟨upd g (Int.toNat (pn : Int)) (xI (a1 : Int)), by rw [va_up_ne _ _ (by decide), va_up_ne _ _ (by decide), va_up_self], fun k hk => by
      by_cases q : k = pn
      · subst q; rw [sp_up_s]; exact if_pos rfl
      · rw [sp_up_n _ _ q]; simp only [upd]; rw [if_neg (by omega)]; exact hg2 k (by omega)⟩, ⟨upd w (Int.toNat (pn : Int)) (xI (a2 : Int)), by rw [va_up_ne _ _ (by decide), va_up_self], fun k hk => by
      by_cases q : k = pn
      · subst q; rw [sp_up_s]; exact if_pos rfl
      · rw [sp_up_n _ _ q]; simp only [upd]; rw [if_neg (by omega)]; exact hw2 k (by omega)⟩, by omega⟩, fun q q1 q2 q3 => by rw [va_up_ne _ _ q1, va_up_ne _ _ q3, va_up_ne _ _ q2]⟩) dX1_addPart_54

def sp_drop (ps pe : Nat → Nat) : Nat → Nat
  | 0 => 0
  | k + 1 => if ps k = pe k then sp_drop ps pe k else k + 1
theorem sp_drop_le (ps pe : Nat → Nat) : ∀ k : Nat, sp_drop ps pe k ≤ k
  | 0 => Nat.le_refl 0
  | k + 1 => by
    rw [sp_drop]
    split
    · exact Nat.le_succ_of_le (sp_drop_le ps pe k)
    · exact Nat.le_refl _
theorem sp_drop_t {ps pe : Nat → Nat} {k : Nat} (h0 : 0 < k) (h : ps (k - 1) = pe (k - 1)) : sp_drop ps pe k = sp_drop ps pe (k - 1) := by
  obtain ⟨j, rfl⟩ : ∃ j, k = j + 1 := ⟨k - 1, by omega⟩
  simp only [Nat.add_sub_cancel] at h ⊢
  rw [sp_drop, if_pos h]
theorem sp_drop_f {ps pe : Nat → Nat} {k : Nat} (h0 : 0 < k) (h : ¬ ps (k - 1) = pe (k - 1)) : sp_drop ps pe k = k := by
  obtain ⟨j, rfl⟩ : ∃ j, k = j + 1 := ⟨k - 1, by omega⟩
  simp only [Nat.add_sub_cancel] at h ⊢
  rw [sp_drop, if_neg h]
theorem XP0.sz {cA : Nat → ClassId} {ad : Nat → Nat} {en : Nat → va_E} {pn pn' : Nat} {ps pe : Nat → Nat} {z : Int} (h : XP0 cA ad en pn ps pe) (hz : z = (pn' : Int)) (hle : pn' ≤ pn) : XP0 cA ad (va_up en 4 (.inr (1, [.ref (ad 5), .ref (ad 7), .ref (ad 8), .int (xI z)]))) pn' ps pe := by
  subst hz
  obtain ⟨h1, ⟨g, h2, h3⟩, ⟨g2, h4, h5⟩, h6⟩ := h
  exact ⟨va_up_self _ _ _, ⟨g, by rw [va_up_ne _ _ (by decide)]; exact h2, fun k hk => h3 k (by omega)⟩, ⟨g2, by rw [va_up_ne _ _ (by decide)]; exact h4, fun k hk => h5 k (by omega)⟩, by omega⟩

set_option maxRecDepth 20000 in
theorem c_X1_dropEmptyEnd (l : Launch) (D : va_G) (cA : Nat → ClassId) (n : Nat) (ad : Nat → Nat) (en : Nat → va_E) (sz : Nat) {pn : Nat} {ps pe : Nat → Nat} (hn : 9 ≤ n) (hp0 : XP0 cA ad en pn ps pe) (hbs : ∀ k : Nat, k < pn → ps k ≤ 200) (hbe : ∀ k : Nat, k < pn → pe k ≤ 200) : Met l yX1_dropEmptyEnd (Cond.code yX1_dropEmptyEnd cX1_dropEmptyEnd 2 none :: xU) (xrm 2 42) (va_Pc [.ref (ad 4)] (xM D cA n ad en sz)) (va_Qv (fun u => XP0 cA ad u (sp_drop ps pe pn) ps pe ∧ xO 4 5 en u) (xE D n ad) (xA n ad sz)) 0 0 (xA n ad sz) := by
  refine xmet (by decide) (Nat.le_of_ble_eq_true rfl) (fun p e s mm args below meth c ls hx hb hrt hml hown hts hlocks hname hB hl => ?_)
  obtain ⟨⟨hP, hK, hN⟩, hsz, hDt⟩ := hB
  have hD : xD (xA n ad sz) n ad := xD_self hDt sz
  have hA : ∀ q : Nat, s.heap.size ≤ q → xA n ad sz q := fun q h => Or.inr (by rw [← hsz]; exact h)
  have hS : va_S (xA n ad sz) s.heap s.heap [] := va_S.rf
  have hown : s.vm.findClass RX1 = some mm.cls := hown
  have hl : lv_has ls 2 [(0, .ref (ad 4))] := hl
  have hpn := hp0.2.2.2
  refine lv_aload_n hx hb dX1_dropEmptyEnd_0 rfl (lv_at hl 0 rfl) ?_
  refine x_get (T := TX1) (N := 4) hx hb hts uX1 hown hK hP (i := 4) (by omega) hp0.1 rfl 3 (by decide) u_fl_RX1_25 rfl dX1_dropEmptyEnd_1 ?_
  refine x_iconst hx hb dX1_dropEmptyEnd_4 ?_
  refine x_isub hx hb dX1_dropEmptyEnd_5 ?_
  refine lv_istore_n (lv' := [(1, .int (xI ((pn : Int) - 1))), (0, .ref (ad 4))]) hx hb dX1_dropEmptyEnd_6 rfl hl (by decide) rfl (fun ls hl => ?_)
  have L7 : ∀ (nn : Nat) (k : Int) (ew7 : Nat → va_E) (H : Heap) (locs : List Loc), (-1 ≤ k ∧ k < (pn : Int)) → (sp_drop ps pe (k + 1).toNat = sp_drop ps pe pn) → ((k + 1).toNat) < nn → (XP0 cA ad ew7 (k + 1).toNat ps pe) → (xO 4 5 en ew7) → va_P D vwCl (xw n ad ew7) H → va_S (xA n ad sz) s.heap H locs → ∀ ls : Array Slot, lv_has ls 2 [(0, .ref (ad 4)), (1, .int (xI k))] → W p l e (xrm 2 42) s mm args below meth c H locs 0 0 (MQ below (va_Qv (fun u => XP0 cA ad u (sp_drop ps pe pn) ps pe ∧ xO 4 5 en u) (xE D n ad) (xA n ad sz)) args s 0 0 (xA n ad sz)) (F0 mm 7 ls []) := by
    intro nn
    induction nn with
    | zero =>
      intro k ew7 H locs hk hF hmm hp0 ho hP hS ls hl
      exact absurd hmm (Nat.not_lt_zero _)
    | succ nn ih =>
      intro k ew7 H locs hk hF hmm hp0 ho hP hS ls hl
      have hk1 : (((k + 1).toNat : Nat) : Int) = k + 1 := by omega
      refine lv_iload_n hx hb dX1_dropEmptyEnd_7 rfl (lv_at hl 1 rfl) ?_
      refine x_if_lt (tgt := 35) hx hb dX1_dropEmptyEnd_8 (by decide) (by omega) (fun c_8 => ?_) (fun c_8 => ?_)
      · have e1 : sp_drop ps pe pn = (k + 1).toNat := by rw [← hF, show (k + 1).toNat = 0 by omega, sp_drop]
        exact xe_v hx hb hrt hlocks hP hS (⟨by rw [e1]; exact hp0, ho⟩) dX1_dropEmptyEnd_35
      · refine lv_aload_n hx hb dX1_dropEmptyEnd_11 rfl (lv_at hl 0 rfl) ?_
        refine lv_iload_n hx hb dX1_dropEmptyEnd_12 rfl (lv_at hl 1 rfl) ?_
        refine xv_i (i := 4) (As := [.int (xI k)]) (rest := []) ⟨hx, hb, hml, hown, hts⟩ hl.1 (c_X1_start l D cA n ad ew7 (by omega) hp0 (fun q hq => hbs q (by omega)) k (by omega)) k_X1_start u_ml_RX1_54 hK hN hP (by omega) hp0.1 rfl rfl rfl rfl (Nat.le_of_ble_eq_true rfl) ⟨Nat.le_of_ble_eq_true rfl, Nat.le_of_ble_eq_true rfl⟩ ⟨Nat.le_of_ble_eq_true rfl, Nat.le_of_ble_eq_true rfl⟩ dX1_dropEmptyEnd_13 ?_
        refine lv_aload_n hx hb dX1_dropEmptyEnd_16 rfl (lv_at hl 0 rfl) ?_
        refine lv_iload_n hx hb dX1_dropEmptyEnd_17 rfl (lv_at hl 1 rfl) ?_
        refine xv_i (i := 4) (As := [.int (xI k)]) (rest := [.int (xI ((ps (Int.toNat k) : Nat) : Int))]) ⟨hx, hb, hml, hown, hts⟩ hl.1 (c_X1_end l D cA n ad ew7 (by omega) hp0 (fun q hq => hbe q (by omega)) k (by omega)) k_X1_end u_ml_RX1_57 hK hN hP (by omega) hp0.1 rfl rfl rfl rfl (Nat.le_of_ble_eq_true rfl) ⟨Nat.le_of_ble_eq_true rfl, Nat.le_of_ble_eq_true rfl⟩ ⟨Nat.le_of_ble_eq_true rfl, Nat.le_of_ble_eq_true rfl⟩ dX1_dropEmptyEnd_18 ?_
        refine x_icmp_ne (tgt := 35) hx hb dX1_dropEmptyEnd_21 (by decide) (by have := hbs k.toNat (by omega); have := hbe k.toNat (by omega); omega) (fun c_21 => ?_) (fun c_21 => ?_)
        · have e1 : sp_drop ps pe pn = (k + 1).toNat := by rw [← hF]; exact sp_drop_f (by omega) (by rw [show Int.toNat (k + 1) - 1 = k.toNat by omega]; omega)
          exact xe_v hx hb hrt hlocks hP hS (⟨by rw [e1]; exact hp0, ho⟩) dX1_dropEmptyEnd_35
        · refine lv_aload_n hx hb dX1_dropEmptyEnd_24 rfl (lv_at hl 0 rfl) ?_
          refine lv_iload_n hx hb dX1_dropEmptyEnd_25 rfl (lv_at hl 1 rfl) ?_
          refine x_put (T := TX1) (N := 4) (ty := .int) hx hb hts uX1 tyX1 tyX1_ok nmX1 hown hK hP hD hS (i := 4) (by omega) hp0.1 rfl 3 (by decide) u_fl_RX1_25 rfl (by decide +kernel) rfl rfl (by show 3 < 4; decide) dX1_dropEmptyEnd_26 (fun H locs hP hS => ?_)
          have hP : va_P D vwCl (xw n ad (va_up ew7 4 (.inr (1, [.ref (ad 5), .ref (ad 7), .ref (ad 8), .int (xI k)])))) H := hP
          obtain ⟨en1, he1⟩ : ∃ z, z = va_up ew7 4 (.inr (1, [.ref (ad 5), .ref (ad 7), .ref (ad 8), .int (xI k)])) := ⟨_, rfl⟩
          rw [← he1] at hP
          have ho1 : en1 4 = (.inr (1, [.ref (ad 5), .ref (ad 7), .ref (ad 8), .int (xI k)])) := by rw [he1, va_up_self]
          refine x_iinc (lv' := [(1, .int (xI (k + (-1)))), (0, .ref (ad 4))]) (k := 1) hx hb dX1_dropEmptyEnd_29 hl rfl (by decide) rfl (fun ls hl => ?_)
          refine lv_goto (tgt := 7) hx hb dX1_dropEmptyEnd_32 (by decide) ?_
          have hp1 : XP0 cA ad en1 (Int.toNat (k + (-1) + 1)) ps pe := by rw [he1]; exact hp0.sz (by omega) (by omega)
          have ho1 : xO 4 5 en en1 := by rw [he1]; exact ho.up (by omega) (by omega)
          exact ih (k + (-1)) en1 _ _ (by omega) (by rw [← hF, show Int.toNat (k + (-1) + 1) = Int.toNat (k + 1) - 1 by omega]; exact (sp_drop_t (by omega) (by rw [show Int.toNat (k + 1) - 1 = k.toNat by omega]; omega)).symm) (by omega) hp1 ho1 hP hS ls (lv_sub hl [1, 0] rfl)
  exact L7 _ ((pn : Int) - 1) en _ _ (by omega) (by rw [show Int.toNat ((pn : Int) - 1 + 1) = pn by omega]) (Nat.lt_succ_self _) (by rw [show Int.toNat ((pn : Int) - 1 + 1) = pn by omega]; exact hp0) xO.rf hP hS ls (lv_sub hl [1, 0] rfl)
end
section
/-! how a text falls into parts -/
def sp_spl (h : Nat → Int) (z lim : Int) : Nat → Nat × Nat × (Nat → Nat) × (Nat → Nat)
  | 0 => (0, 0, fun _ => 0, fun _ => 0)
  | t + 1 => if h t = z ∧ (lim ≤ 0 ∨ ((sp_spl h z lim t).1 : Int) < lim - 1) then ((sp_spl h z lim t).1 + 1, t + 1, sp_up (sp_spl h z lim t).2.2.1 (sp_spl h z lim t).1 (sp_spl h z lim t).2.1, sp_up (sp_spl h z lim t).2.2.2 (sp_spl h z lim t).1 t) else sp_spl h z lim t
theorem sp_spl_t {h : Nat → Int} {z lim : Int} {t pn fr : Nat} {ps pe : Nat → Nat} (e : sp_spl h z lim t = (pn, fr, ps, pe)) (h1 : h t = z) (h2 : lim ≤ 0 ∨ (pn : Int) < lim - 1) : sp_spl h z lim (t + 1) = (pn + 1, t + 1, sp_up ps pn fr, sp_up pe pn t) := by
  rw [sp_spl, e]
  exact if_pos ⟨h1, h2⟩
theorem sp_spl_f {h : Nat → Int} {z lim : Int} {t pn fr : Nat} {ps pe : Nat → Nat} (e : sp_spl h z lim t = (pn, fr, ps, pe)) (h1 : ¬ (h t = z ∧ (lim ≤ 0 ∨ (pn : Int) < lim - 1))) : sp_spl h z lim (t + 1) = (pn, fr, ps, pe) := by
  rw [sp_spl, e]
  exact if_neg h1
def sp_I (t pn fr : Nat) (ps pe : Nat → Nat) : Prop := pn ≤ t ∧ fr ≤ t ∧ (pn = 0 → fr = 0) ∧ (∀ j : Nat, j + 1 = pn → fr = pe j + 1) ∧ (∀ j : Nat, j < pn → ps j ≤ pe j ∧ pe j < t) ∧ (0 < pn → ps 0 = 0) ∧ ∀ j : Nat, j + 1 < pn → ps (j + 1) = pe j + 1
theorem sp_I_add {t pn fr : Nat} {ps pe : Nat → Nat} (I : sp_I t pn fr ps pe) : sp_I (t + 1) (pn + 1) (t + 1) (sp_up ps pn fr) (sp_up pe pn t) := by
  obtain ⟨i1, i2, i3, i4, i5, i6, i7⟩ := I
  refine ⟨by omega, by omega, by omega, fun j hj => ?_, fun j hj => ?_, fun _ => ?_, fun j hj => ?_⟩
  · rw [show j = pn by omega, sp_up_s]
  · by_cases q : j = pn
    · subst q
      rw [sp_up_s, sp_up_s]
      omega
    · rw [sp_up_n _ _ q, sp_up_n _ _ q]
      have := i5 j (by omega)
      omega
  · by_cases q : 0 = pn
    · subst q
      rw [sp_up_s]
      exact i3 rfl
    · rw [sp_up_n _ _ q]
      exact i6 (by omega)
  · by_cases q : j + 1 = pn
    · rw [q, sp_up_s, sp_up_n _ _ (by omega)]
      exact i4 j q
    · rw [sp_up_n _ _ q, sp_up_n _ _ (by omega)]
      exact i7 j (by omega)
theorem sp_spl_ok {h : Nat → Int} {z lim : Int} : ∀ {t pn fr : Nat} {ps pe : Nat → Nat}, sp_spl h z lim t = (pn, fr, ps, pe) → sp_I t pn fr ps pe := by
  intro t
  induction t with
  | zero =>
    intro pn fr ps pe e
    rw [sp_spl] at e
    cases e
    exact ⟨Nat.le_refl _, Nat.le_refl _, fun _ => rfl, fun j hj => absurd hj (by omega), fun j hj => absurd hj (by omega), fun hj => absurd hj (by omega), fun j hj => absurd hj (by omega)⟩
  | succ t ih =>
    intro pn fr ps pe e
    have I := ih (pn := (sp_spl h z lim t).1) (fr := (sp_spl h z lim t).2.1) (ps := (sp_spl h z lim t).2.2.1) (pe := (sp_spl h z lim t).2.2.2) rfl
    rw [sp_spl] at e
    by_cases q : h t = z ∧ (lim ≤ 0 ∨ ((sp_spl h z lim t).1 : Int) < lim - 1)
    · rw [if_pos q] at e
      cases e
      exact sp_I_add I
    · rw [if_neg q] at e
      rw [e] at I
      have I : sp_I t pn fr ps pe := I
      obtain ⟨i1, i2, i3, i4, i5, i6, i7⟩ := I
      exact ⟨by omega, by omega, i3, i4, fun j hj => ⟨(i5 j hj).1, by have := (i5 j hj).2; omega⟩, i6, i7⟩
def sp_fin (h : Nat → Int) (k : Nat) (lim : Int) (q : Nat × Nat × (Nat → Nat) × (Nat → Nat)) : xPts :=
  (if lim = 0 ∧ 0 < q.1 then sp_drop (sp_up q.2.2.1 q.1 q.2.1) (sp_up q.2.2.2 q.1 k) (q.1 + 1) else q.1 + 1, sp_up q.2.2.1 q.1 q.2.1, sp_up q.2.2.2 q.1 k, h)
def sp_split (h : Nat → Int) (k : Nat) (z lim : Int) : xPts := sp_fin h k lim (sp_spl h z lim k)
/-- parts as they may be -/
def sp_pok (k : Nat) (P : xPts) : Prop := P.1 ≤ k + 1 ∧ (∀ j : Nat, j < P.1 → P.2.1 j ≤ P.2.2.1 j ∧ P.2.2.1 j ≤ k) ∧ (0 < P.1 → P.2.1 0 = 0) ∧ ∀ j : Nat, j + 1 < P.1 → P.2.1 (j + 1) = P.2.2.1 j + 1
theorem sp_split_ok (h : Nat → Int) (k : Nat) (z lim : Int) : sp_pok k (sp_split h k z lim) := by
  have I := sp_I_add (sp_spl_ok (h := h) (z := z) (lim := lim) (t := k) (pn := (sp_spl h z lim k).1) (fr := (sp_spl h z lim k).2.1) (ps := (sp_spl h z lim k).2.2.1) (pe := (sp_spl h z lim k).2.2.2) rfl)
  obtain ⟨i1, i2, i3, i4, i5, i6, i7⟩ := I
  have hle : (sp_split h k z lim).1 ≤ (sp_spl h z lim k).1 + 1 := by
    show (if lim = 0 ∧ 0 < (sp_spl h z lim k).1 then _ else _) ≤ _
    split
    · exact sp_drop_le _ _ _
    · exact Nat.le_refl _
  exact ⟨by omega, fun j hj => ⟨(i5 j (by omega)).1, by have := (i5 j (by omega)).2; show sp_up _ _ _ _ ≤ k; omega⟩, fun hj => i6 (by omega), fun j hj => i7 j (by omega)⟩
theorem XP0.c0 {cA : Nat → ClassId} {ad : Nat → Nat} {en : Nat → va_E} {ps pe ps' pe' : Nat → Nat} (h : XP0 cA ad en 0 ps pe) : XP0 cA ad en 0 ps' pe' := by
  obtain ⟨h1, ⟨g, h2, h3⟩, ⟨g2, h4, h5⟩, h6⟩ := h
  exact ⟨h1, ⟨g, h2, fun k hk => absurd hk (Nat.not_lt_zero _)⟩, ⟨g2, h4, fun k hk => absurd hk (Nat.not_lt_zero _)⟩, h6⟩
theorem XP.of0 {cA : Nat → ClassId} {ad : Nat → Nat} {en : Nat → va_E} {P : xPts} {k : Nat} (h : XP0 cA ad en P.1 P.2.1 P.2.2.1) (hr : XR cA ad en 5 k P.2.2.2) (ho : sp_pok k P) : XP cA ad en P := by
  obtain ⟨h1, h2, h3, h4⟩ := h
  exact ⟨h1, ⟨k, hr, fun j hj => (ho.2.1 j hj).2⟩, h2, h3, h4, fun j hj => (ho.2.1 j hj).1, ho.2.2.1, ho.2.2.2⟩

set_option maxRecDepth 20000 in
theorem c_X1_fall (l : Launch) (D : va_G) (cA : Nat → ClassId) (n : Nat) (ad : Nat → Nat) (en : Nat → va_E) (sz : Nat) {P : xPts} (hn : 9 ≤ n) (hXP : XP cA ad en P) {j k : Nat} {h : Nat → Int} (hj : j + 1 < n) (hq : XR cA ad en j k h) (hj9 : 9 ≤ j) (z1 z2 : Int) (hz1 : -2147483648 ≤ z1 ∧ z1 ≤ 2147483647) (hz2 : -2147483648 ≤ z2 ∧ z2 ≤ 2147483647) : Met l yX1_fall (Cond.code yX1_fall cX1_fall 6 none :: xU) (xrm 3 63) (va_Pc [.ref (ad 4), .ref (ad j), .int (xI z1), .int (xI z2)] (xM D cA n ad en sz)) (va_Qv (fun u => XP cA ad u (sp_split h k z1 z2) ∧ xO 4 9 en u) (xE D n ad) (xA n ad sz)) 0 0 (xA n ad sz) := by
  refine xmet (by decide) (Nat.le_of_ble_eq_true rfl) (fun p e s mm args below meth c ls hx hb hrt hml hown hts hlocks hname hB hl => ?_)
  obtain ⟨⟨hP, hK, hN⟩, hsz, hDt⟩ := hB
  have hD : xD (xA n ad sz) n ad := xD_self hDt sz
  have hA : ∀ q : Nat, s.heap.size ≤ q → xA n ad sz q := fun q h => Or.inr (by rw [← hsz]; exact h)
  have hS : va_S (xA n ad sz) s.heap s.heap [] := va_S.rf
  have hown : s.vm.findClass RX1 = some mm.cls := hown
  have hl : lv_has ls 6 [(0, .ref (ad 4)), (1, .ref (ad j)), (2, .int (xI z1)), (3, .int (xI z2))] := hl
  have hp0 := hXP.to0
  obtain ⟨wn, hw, -⟩ := hXP.2.1
  have hm2 := hq.2.2.1
  have hwn := hw.2.2.1
  refine lv_aload_n hx hb dX1_fall_0 rfl (lv_at hl 0 rfl) ?_
  refine x_get (T := TX1) (N := 4) hx hb hts uX1 hown hK hP (i := 4) (by omega) hp0.1 rfl 0 (by decide) u_fl_RX1_12 rfl dX1_fall_1 ?_
  refine lv_aload_n hx hb dX1_fall_4 rfl (lv_at hl 1 rfl) ?_
  refine x_iconst hx hb dX1_fall_5 ?_
  refine lv_aload_n hx hb dX1_fall_6 rfl (lv_at hl 1 rfl) ?_
  refine x_getn (T := TX2) (N := 2) hx hb hts uX2 hown hN hK hP (i := j) (by omega) hq.1 rfl 1 (by decide) (by simp only [xNest, List.mem_cons]; exact Or.inr (Or.inr (Or.inl rfl))) rfl dX1_fall_7 ?_
  refine xm_i (i := 5) (As := [.ref (ad j), .int (xI 0), .int (xI (k : Int))]) (rest := []) ⟨hx, hb, hml, hown, hts⟩ hl.1 (c_X2_copy l D cA n ad en _ (by omega) hw hj hq (by omega) 0 (k : Int) (by omega) (by omega)) k_X2_copy u_ml_RX1_36 hK hN hP (by omega) hw.1 rfl rfl rfl rfl (Nat.le_of_ble_eq_true rfl) ⟨Nat.le_of_ble_eq_true rfl, Nat.le_of_ble_eq_true rfl⟩ ⟨Nat.le_of_ble_eq_true rfl, Nat.le_of_ble_eq_true rfl⟩ dX1_fall_10 hD hS hA (fun r1 en1 H locs hp1 hP hS => ?_)
  rcases hp1 with ⟨hsp, hrv, hx1, ho⟩ | ⟨hsp, hrv, hu⟩
  · subst hrv
    have hw := hx1.to (m' := k) (f' := h) (by omega) (fun t _ => by rw [show Int.toNat 0 + t = t from Nat.zero_add t])
    have hp0 := hp0.ko ho (by omega)
    have hq := hq.ko ho (by omega)
    refine lv_pop hx hb dX1_fall_13 rfl ?_
    refine lv_aload_n hx hb dX1_fall_14 rfl (lv_at hl 0 rfl) ?_
    refine x_iconst hx hb dX1_fall_15 ?_
    refine x_put (T := TX1) (N := 4) (ty := .int) hx hb hts uX1 tyX1 tyX1_ok nmX1 hown hK hP hD hS (i := 4) (by omega) hp0.1 rfl 3 (by decide) u_fl_RX1_25 rfl (by decide +kernel) rfl rfl (by show 3 < 4; decide) dX1_fall_16 (fun H locs hP hS => ?_)
    have hP : va_P D vwCl (xw n ad (va_up en1 4 (.inr (1, [.ref (ad 5), .ref (ad 7), .ref (ad 8), .int (xI 0)])))) H := hP
    obtain ⟨en2, he2⟩ : ∃ z, z = va_up en1 4 (.inr (1, [.ref (ad 5), .ref (ad 7), .ref (ad 8), .int (xI 0)])) := ⟨_, rfl⟩
    rw [← he2] at hP
    have ho2 : en2 4 = (.inr (1, [.ref (ad 5), .ref (ad 7), .ref (ad 8), .int (xI 0)])) := by rw [he2, va_up_self]
    have hk3 := (show en2 5 = en1 5 from by rw [he2, va_up_ne _ _ (by omega)]).trans hw.1
    have hk4 := (show en2 j = en1 j from by rw [he2, va_up_ne _ _ (by omega)]).trans hq.1
    have ho1 : xO 4 5 en1 en2 := by rw [he2]; exact xO.rf.up (by omega) (by omega)
    have hp0 : XP0 cA ad en2 0 (fun _ => 0) (fun _ => 0) := by rw [he2]; exact (hp0.sz (pn' := 0) rfl (Nat.zero_le _)).c0
    have hw := hw.ko ho1 (by omega)
    have hq := hq.ko ho1 (by omega)
    have ho : xO 4 9 en en2 := (ho.mo (by omega) (by omega)).tr (ho1.mo (by omega) (by omega))
    refine x_iconst hx hb dX1_fall_19 ?_
    refine lv_istore (lv' := [(4, .int (xI 0)), (0, .ref (ad 4)), (1, .ref (ad j)), (2, .int (xI z1)), (3, .int (xI z2))]) hx hb dX1_fall_20 hl (by decide) rfl (fun ls hl => ?_)
    refine x_iconst hx hb dX1_fall_22 ?_
    refine lv_istore (lv' := [(5, .int (xI 0)), (4, .int (xI 0)), (0, .ref (ad 4)), (1, .ref (ad j)), (2, .int (xI z1)), (3, .int (xI z2))]) hx hb dX1_fall_23 hl (by decide) rfl (fun ls hl => ?_)
    have L25 : ∀ (nn : Nat) (t : Nat) (fr : Nat) (pn : Nat) (ps : Nat → Nat) (pe : Nat → Nat) (ew25 : Nat → va_E) (H : Heap) (locs : List Loc), (t ≤ k) → (sp_spl h z1 z2 t = (pn, fr, ps, pe)) → (k - t) < nn → (XP0 cA ad ew25 pn ps pe) → (XR cA ad ew25 5 k h) → (XR cA ad ew25 j k h) → (xO 4 9 en ew25) → va_P D vwCl (xw n ad ew25) H → va_S (xA n ad sz) s.heap H locs → ∀ ls : Array Slot, lv_has ls 6 [(0, .ref (ad 4)), (2, .int (xI z1)), (3, .int (xI z2)), (4, .int (xI (fr : Int))), (5, .int (xI (t : Int)))] → W p l e (xrm 3 63) s mm args below meth c H locs 0 0 (MQ below (va_Qv (fun u => XP cA ad u (sp_split h k z1 z2) ∧ xO 4 9 en u) (xE D n ad) (xA n ad sz)) args s 0 0 (xA n ad sz)) (F0 mm 25 ls []) := by
      intro nn
      induction nn with
      | zero =>
        intro t fr pn ps pe ew25 H locs ht hsp hmm hp0 hw hq ho hP hS ls hl
        exact absurd hmm (Nat.not_lt_zero _)
      | succ nn ih =>
        intro t fr pn ps pe ew25 H locs ht hsp hmm hp0 hw hq ho hP hS ls hl
        have hI := sp_spl_ok hsp
        have hI1 := hI.1
        have hI3 := hI.2.1
        have hpn := hp0.2.2.2
        refine lv_iload hx hb dX1_fall_25 (lv_at hl 4 rfl) ?_
        refine lv_aload_n hx hb dX1_fall_27 rfl (lv_at hl 0 rfl) ?_
        refine x_get (T := TX1) (N := 4) hx hb hts uX1 hown hK hP (i := 4) (by omega) hp0.1 rfl 0 (by decide) u_fl_RX1_12 rfl dX1_fall_28 ?_
        refine x_getn (T := TX2) (N := 2) hx hb hts uX2 hown hN hK hP (i := 5) (by omega) hw.1 rfl 1 (by decide) (by simp only [xNest, List.mem_cons]; exact Or.inr (Or.inr (Or.inl rfl))) rfl dX1_fall_31 ?_
        refine x_icmp_ge (tgt := 78) hx hb dX1_fall_34 (by decide) (by omega) (fun c_34 => ?_) (fun c_34 => ?_)
        · refine lv_aload_n hx hb dX1_fall_78 rfl (lv_at hl 0 rfl) ?_
          refine lv_iload hx hb dX1_fall_79 (lv_at hl 3 rfl) ?_
          refine lv_aload_n hx hb dX1_fall_81 rfl (lv_at hl 0 rfl) ?_
          refine x_get (T := TX1) (N := 4) hx hb hts uX1 hown hK hP (i := 4) (by omega) hp0.1 rfl 0 (by decide) u_fl_RX1_12 rfl dX1_fall_82 ?_
          refine x_getn (T := TX2) (N := 2) hx hb hts uX2 hown hN hK hP (i := 5) (by omega) hw.1 rfl 1 (by decide) (by simp only [xNest, List.mem_cons]; exact Or.inr (Or.inr (Or.inl rfl))) rfl dX1_fall_85 ?_
          refine xm_v (i := 4) (As := [.int (xI (fr : Int)), .int (xI (k : Int))]) (rest := []) ⟨hx, hb, hml, hown, hts⟩ hl.1 (c_X1_addPart l D cA n ad ew25 _ (by omega) hp0 (by omega) fr k (by omega) (by omega)) k_X1_addPart u_ml_RX1_47 hK hN hP (by omega) hp0.1 rfl rfl rfl rfl (Nat.le_of_ble_eq_true rfl) ⟨Nat.le_of_ble_eq_true rfl, Nat.le_of_ble_eq_true rfl⟩ ⟨Nat.le_of_ble_eq_true rfl, Nat.le_of_ble_eq_true rfl⟩ dX1_fall_88 hD hS hA (fun en5 H locs hp5 hP hS => ?_)
          obtain ⟨hp0, hXQ⟩ := hp5
          have ho2 : xO 4 9 ew25 en5 := fun q hq9 => hXQ q (by omega) (by omega) (by omega)
          have hw := hw.kp (hXQ 5 (by omega) (by omega) (by omega)) (hXQ 6 (by omega) (by omega) (by omega))
          have hq := hq.ko ho2 (by omega)
          have ho := ho.tr ho2
          have htk : t = k := by omega
          have hI2 := sp_I_add hI
          rw [htk] at hI2
          refine lv_iload_n hx hb dX1_fall_91 rfl (lv_at hl 2 rfl) ?_
          refine x_if_ne (tgt := 107) hx hb dX1_fall_92 (by decide) (by omega) (fun c_92 => ?_) (fun c_92 => ?_)
          · have e1 : sp_split h k z1 z2 = sp_fin h k z2 (pn, fr, ps, pe) := by unfold sp_split; rw [← hsp, show t = k by omega]
            have e2 : (sp_fin h k z2 (pn, fr, ps, pe)).1 = pn + 1 := by show (if z2 = 0 ∧ 0 < pn then _ else _) = _; rw [if_neg (by omega)]
            have hok := sp_split_ok h k z1 z2
            rw [e1] at hok ⊢
            exact xe_v hx hb hrt hlocks hP hS (⟨XP.of0 (k := k) (by rw [e2]; exact hp0) hw hok, ho⟩) dX1_fall_107
          · refine lv_aload_n hx hb dX1_fall_95 rfl (lv_at hl 0 rfl) ?_
            refine x_get (T := TX1) (N := 4) hx hb hts uX1 hown hK hP (i := 4) (by omega) hp0.1 rfl 3 (by decide) u_fl_RX1_25 rfl dX1_fall_96 ?_
            refine x_iconst hx hb dX1_fall_99 ?_
            refine x_icmp_le (tgt := 107) hx hb dX1_fall_100 (by decide) (by omega) (fun c_100 => ?_) (fun c_100 => ?_)
            · have e1 : sp_split h k z1 z2 = sp_fin h k z2 (pn, fr, ps, pe) := by unfold sp_split; rw [← hsp, show t = k by omega]
              have e2 : (sp_fin h k z2 (pn, fr, ps, pe)).1 = pn + 1 := by show (if z2 = 0 ∧ 0 < pn then _ else _) = _; rw [if_neg (by omega)]
              have hok := sp_split_ok h k z1 z2
              rw [e1] at hok ⊢
              exact xe_v hx hb hrt hlocks hP hS (⟨XP.of0 (k := k) (by rw [e2]; exact hp0) hw hok, ho⟩) dX1_fall_107
            · refine lv_aload_n hx hb dX1_fall_103 rfl (lv_at hl 0 rfl) ?_
              refine xm_v (i := 4) (As := []) (rest := []) ⟨hx, hb, hml, hown, hts⟩ hl.1 (c_X1_dropEmptyEnd l D cA n ad en5 _ (by omega) hp0 (fun q hq9 => by have := hI2.2.2.2.2.1 q hq9; omega) (fun q hq9 => by have := hI2.2.2.2.2.1 q hq9; omega)) k_X1_dropEmptyEnd u_ml_RX1_51 hK hN hP (by omega) hp0.1 rfl rfl rfl rfl (Nat.le_of_ble_eq_true rfl) ⟨Nat.le_of_ble_eq_true rfl, Nat.le_of_ble_eq_true rfl⟩ ⟨Nat.le_of_ble_eq_true rfl, Nat.le_of_ble_eq_true rfl⟩ dX1_fall_104 hD hS hA (fun en6 H locs hp6 hP hS => ?_)
              obtain ⟨hp0, ho3⟩ := hp6
              have hw := hw.ko ho3 (by omega)
              have ho := ho.tr (ho3.mo (by omega) (by omega))
              have e1 : sp_split h k z1 z2 = sp_fin h k z2 (pn, fr, ps, pe) := by unfold sp_split; rw [← hsp, show t = k by omega]
              have e2 : (sp_fin h k z2 (pn, fr, ps, pe)).1 = sp_drop (sp_up ps pn fr) (sp_up pe pn k) (pn + 1) := by show (if z2 = 0 ∧ 0 < pn then _ else _) = _; rw [if_pos ⟨by omega, by omega⟩]
              have hok := sp_split_ok h k z1 z2
              rw [e1] at hok ⊢
              exact xe_v hx hb hrt hlocks hP hS (⟨XP.of0 (k := k) (by rw [e2]; exact hp0) hw hok, ho⟩) dX1_fall_107
        · refine lv_aload_n hx hb dX1_fall_37 rfl (lv_at hl 0 rfl) ?_
          refine x_get (T := TX1) (N := 4) hx hb hts uX1 hown hK hP (i := 4) (by omega) hp0.1 rfl 0 (by decide) u_fl_RX1_12 rfl dX1_fall_38 ?_
          refine lv_iload hx hb dX1_fall_41 (lv_at hl 4 rfl) ?_
          refine xv_i (i := 5) (As := [.int (xI (t : Int))]) (rest := []) ⟨hx, hb, hml, hown, hts⟩ hl.1 (c_X2_signThere l D cA n ad ew25 (by omega) hw (t : Int) (by omega)) k_X2_signThere u_ml_RX1_40 hK hN hP (by omega) hw.1 rfl rfl rfl rfl (Nat.le_of_ble_eq_true rfl) ⟨Nat.le_of_ble_eq_true rfl, Nat.le_of_ble_eq_true rfl⟩ ⟨Nat.le_of_ble_eq_true rfl, Nat.le_of_ble_eq_true rfl⟩ dX1_fall_43 ?_
          refine lv_iload_n hx hb dX1_fall_46 rfl (lv_at hl 1 rfl) ?_
          refine x_icmp_ne (tgt := 72) hx hb dX1_fall_47 (by decide) (by have := hw.2.2.2 (Int.toNat (t : Int)) (by omega); omega) (fun c_47 => ?_) (fun c_47 => ?_)
          · refine x_iinc (lv' := [(5, .int (xI ((t : Int) + 1))), (0, .ref (ad 4)), (2, .int (xI z1)), (3, .int (xI z2)), (4, .int (xI (fr : Int)))]) (k := 4) hx hb dX1_fall_72 hl rfl (by decide) rfl (fun ls hl => ?_)
            refine lv_goto (tgt := 25) hx hb dX1_fall_75 (by decide) ?_
            exact ih (t + 1) _ _ _ _ ew25 _ _ (by omega) (sp_spl_f hsp (fun q => c_47 q.1)) (by omega) hp0 hw hq ho hP hS ls (lv_sub hl [1, 2, 3, 4, 0] rfl)
          · refine lv_aload_n hx hb dX1_fall_50 rfl (lv_at hl 0 rfl) ?_
            refine lv_iload_n hx hb dX1_fall_51 rfl (lv_at hl 2 rfl) ?_
            refine xv_i (i := 4) (As := [.int (xI z2)]) (rest := []) ⟨hx, hb, hml, hown, hts⟩ hl.1 (c_X1_mayPart l D cA n ad ew25 (by omega) hp0 z2 (by omega)) k_X1_mayPart u_ml_RX1_44 hK hN hP (by omega) hp0.1 rfl rfl rfl rfl (Nat.le_of_ble_eq_true rfl) ⟨Nat.le_of_ble_eq_true rfl, Nat.le_of_ble_eq_true rfl⟩ ⟨Nat.le_of_ble_eq_true rfl, Nat.le_of_ble_eq_true rfl⟩ dX1_fall_52 ?_
            refine x_ifb_eq (tgt := 72) hx hb dX1_fall_55 (by decide)  (fun c_55 => ?_) (fun c_55 => ?_)
            · refine x_iinc (lv' := [(5, .int (xI ((t : Int) + 1))), (0, .ref (ad 4)), (2, .int (xI z1)), (3, .int (xI z2)), (4, .int (xI (fr : Int)))]) (k := 4) hx hb dX1_fall_72 hl rfl (by decide) rfl (fun ls hl => ?_)
              refine lv_goto (tgt := 25) hx hb dX1_fall_75 (by decide) ?_
              exact ih (t + 1) _ _ _ _ ew25 _ _ (by omega) (sp_spl_f hsp (fun q => c_55 q.2)) (by omega) hp0 hw hq ho hP hS ls (lv_sub hl [1, 2, 3, 4, 0] rfl)
            · refine lv_aload_n hx hb dX1_fall_58 rfl (lv_at hl 0 rfl) ?_
              refine lv_iload hx hb dX1_fall_59 (lv_at hl 3 rfl) ?_
              refine lv_iload hx hb dX1_fall_61 (lv_at hl 4 rfl) ?_
              refine xm_v (i := 4) (As := [.int (xI (fr : Int)), .int (xI (t : Int))]) (rest := []) ⟨hx, hb, hml, hown, hts⟩ hl.1 (c_X1_addPart l D cA n ad ew25 _ (by omega) hp0 (by omega) fr t (by omega) (by omega)) k_X1_addPart u_ml_RX1_47 hK hN hP (by omega) hp0.1 rfl rfl rfl rfl (Nat.le_of_ble_eq_true rfl) ⟨Nat.le_of_ble_eq_true rfl, Nat.le_of_ble_eq_true rfl⟩ ⟨Nat.le_of_ble_eq_true rfl, Nat.le_of_ble_eq_true rfl⟩ dX1_fall_63 hD hS hA (fun en7 H locs hp7 hP hS => ?_)
              obtain ⟨hp0, hXQ⟩ := hp7
              have ho2 : xO 4 9 ew25 en7 := fun q hq9 => hXQ q (by omega) (by omega) (by omega)
              have hw := hw.kp (hXQ 5 (by omega) (by omega) (by omega)) (hXQ 6 (by omega) (by omega) (by omega))
              have hq := hq.ko ho2 (by omega)
              have ho := ho.tr ho2
              refine lv_iload hx hb dX1_fall_66 (lv_at hl 4 rfl) ?_
              refine x_iconst hx hb dX1_fall_68 ?_
              refine x_iadd hx hb dX1_fall_69 ?_
              refine lv_istore (lv' := [(4, .int (xI ((t : Int) + 1))), (0, .ref (ad 4)), (2, .int (xI z1)), (3, .int (xI z2)), (5, .int (xI (t : Int)))]) hx hb dX1_fall_70 hl (by decide) rfl (fun ls hl => ?_)
              refine x_iinc (lv' := [(5, .int (xI ((t : Int) + 1))), (4, .int (xI ((t : Int) + 1))), (0, .ref (ad 4)), (2, .int (xI z1)), (3, .int (xI z2))]) (k := 4) hx hb dX1_fall_72 hl rfl (by decide) rfl (fun ls hl => ?_)
              refine lv_goto (tgt := 25) hx hb dX1_fall_75 (by decide) ?_
              exact ih (t + 1) _ _ _ _ en7 _ _ (by omega) (sp_spl_t hsp c_47 c_55) (by omega) hp0 hw hq ho hP hS ls (lv_sub hl [2, 3, 4, 1, 0] rfl)
    exact L25 _ 0 0 0 (fun _ => 0) (fun _ => 0) en2 _ _ (Nat.zero_le _) (by rw [sp_spl]) (Nat.lt_succ_self _) hp0 hw hq ho hP hS ls (lv_sub hl [2, 4, 5, 1, 0] rfl)
  · exact absurd (by omega) hsp
end
section
/-! cutters -/
theorem sp_while_n {P : Int → Prop} {a b : Int} (h : a < b → ¬ P a) (hab : a ≤ b) : sp_while P a b = a := by
  by_cases q : a < b
  · exact sp_while_f q (h q)
  · exact sp_while_e (by omega)
noncomputable def sp_ts (G : Prop) (S : Int → Prop) (f : Nat → Int) (m a : Int) : Int := sp_while (fun q => ¬ G ∧ S (f q.toNat)) a m
noncomputable def sp_te (S : Int → Prop) (f : Nat → Int) (m a : Int) : Int := @ite Int (S (f a.toNat)) (Classical.propDecidable _) (a + 1) (sp_while (fun q => ¬ S (f q.toNat)) (a + 1) m)
theorem sp_te_of {S : Int → Prop} {f : Nat → Int} {m a b : Int} (h1 : S (f a.toNat) → b = a + 1) (h2 : ¬ S (f a.toNat) → sp_while (fun q => ¬ S (f q.toNat)) (a + 1) m = b) : b = sp_te S f m a := by
  unfold sp_te
  by_cases q : S (f a.toNat)
  · rw [if_pos q]; exact h1 q
  · rw [if_neg q]; exact (h2 q).symm
theorem sp_ts_b {G : Prop} {S : Int → Prop} {f : Nat → Int} {m a : Int} (h : a ≤ m) : a ≤ sp_ts G S f m a ∧ sp_ts G S f m a ≤ m := sp_while_b h
theorem sp_te_b {S : Int → Prop} {f : Nat → Int} {m a : Int} (h : a < m) : a + 1 ≤ sp_te S f m a ∧ sp_te S f m a ≤ m := by
  unfold sp_te
  by_cases q : S (f a.toNat)
  · rw [if_pos q]; omega
  · rw [if_neg q]; exact sp_while_b (by omega)
noncomputable def sp_tl (G : Prop) (S : Int → Prop) (f : Nat → Int) (m : Int) : Nat → Int → Int
  | 0, _ => 0
  | k + 1, a => if a < m then 1 + sp_tl G S f m k (sp_ts G S f m (sp_te S f m a)) else 0
noncomputable def sp_left (G : Prop) (S : Int → Prop) (f : Nat → Int) (m a : Int) : Int := sp_tl G S f m 201 (sp_ts G S f m a)
theorem sp_tl_t {G : Prop} {S : Int → Prop} {f : Nat → Int} {m a c : Int} (hc : 0 ≤ c ∧ c ≤ 200) (h : a < m) : c + sp_tl G S f m (201 - c).toNat a = c + 1 + sp_tl G S f m (201 - (c + 1)).toNat (sp_ts G S f m (sp_te S f m a)) := by
  rw [show (201 - c).toNat = (201 - (c + 1)).toNat + 1 by omega, sp_tl, if_pos h]
  omega
theorem sp_tl_e {G : Prop} {S : Int → Prop} {f : Nat → Int} {m a : Int} (k : Nat) (h : m ≤ a) : sp_tl G S f m k a = 0 := by
  cases k with
  | zero => rfl
  | succ k => rw [sp_tl, if_neg (by omega)]
def sp_sep (h : Nat → Int) (k : Nat) : Int → Prop := fun z => ∃ t : Nat, t < k ∧ h t = z
/-- a cutter's cells, whatever its separators -/
def XKw (cA : Nat → ClassId) (ad : Nat → Nat) (en : Nat → va_E) (i m : Nat) (f : Nat → Int) (G : Prop) (z pl : Int) : Prop :=
  en i = .inr (0, [.ref (ad (i + 1)), .ref (ad (i + 3)), .int (xb G), .int (xI z), .int (xI pl)]) ∧ XR cA ad en (i + 1) m f ∧ ∃ g : Nat → Int32, en (i + 3) = .inl (cA 1, 256, .inl g)
section XKS
variable {cA : Nat → ClassId} {ad : Nat → Nat} {en en' : Nat → va_E} {i m : Nat} {f : Nat → Int} {S : Int → Prop} {G : Prop} {z pl : Int}
theorem XKw.ko {a b : Nat} (h : XKw cA ad en i m f G z pl) (ho : xO a b en en') (hi : i + 3 < a ∨ b ≤ i) : XKw cA ad en' i m f G z pl := by
  obtain ⟨h1, h2, g, h3⟩ := h
  exact ⟨(ho i (by omega)).trans h1, h2.ko ho (by omega), g, (ho _ (by omega)).trans h3⟩
theorem XKw.ar (h : XKw cA ad en i m f G z pl) (g' : Nat → Int32) : XKw cA ad (va_up en (i + 3) (.inl (cA 1, 256, .inl g'))) i m f G z pl := by
  obtain ⟨h1, h2, g, h3⟩ := h
  exact ⟨by rw [va_up_ne _ _ (by omega)]; exact h1, h2.kp (va_up_ne _ _ (by omega)) (va_up_ne _ _ (by omega)), g', va_up_self _ _ _⟩
theorem XKw.rw (h : XKw cA ad en i m f G z pl) {m' : Nat} {f' : Nat → Int} (ho : xO (i + 1) (i + 1 + 2) en en') (hr : XR cA ad en' (i + 1) m' f') : XKw cA ad en' i m' f' G z pl := by
  obtain ⟨h1, h2, g, h3⟩ := h
  exact ⟨(ho i (by omega)).trans h1, hr, g, (ho _ (by omega)).trans h3⟩
theorem XK.st (h : XK cA ad en i m f S G z pl) (G' : Prop) (z' pl' : Int) : XK cA ad (va_up en i (.inr (0, [.ref (ad (i + 1)), .ref (ad (i + 3)), .int (xb G'), .int (xI z'), .int (xI pl')]))) i m f S G' z' pl' := by
  obtain ⟨h1, h2, g, h3, h4⟩ := h
  exact ⟨va_up_self _ _ _, h2.kp (va_up_ne _ _ (by omega)) (va_up_ne _ _ (by omega)), g, by rw [va_up_ne _ _ (by omega)]; exact h3, h4⟩
theorem XK.w (h : XK cA ad en i m f S G z pl) : XKw cA ad en i m f G z pl := ⟨h.1, h.2.1, h.2.2.choose, h.2.2.choose_spec.1⟩
end XKS
theorem XC.any {cA : Nat → ClassId} {ad : Nat → Nat} {en : Nat → va_E} {i : Nat} {o : Option xCut} (h : XC cA ad en i o) : ∃ (m : Nat) (f : Nat → Int) (G : Prop) (z pl : Int), XKw cA ad en i m f G z pl := by
  cases o with
  | none =>
    obtain ⟨G, pl, h1, ⟨m, f, h2⟩, g, h3⟩ := h
    exact ⟨m, f, G, 1, pl, h1, h2, g, h3⟩
  | some q =>
    obtain ⟨h1, h2, h3, g, h4, h5⟩ := h
    exact ⟨_, _, _, _, _, h1, h2, g, h4⟩
theorem XC.k {cA : Nat → ClassId} {ad : Nat → Nat} {en : Nat → va_E} {i : Nat} {q : xCut} (h : XC cA ad en i (some q)) : XK cA ad en i q.1.1 q.1.2 q.2.1 q.2.2.1 0 (q.2.2.2 : Int) ∧ q.2.2.2 ≤ q.1.1 := ⟨⟨h.1, h.2.1, h.2.2.2⟩, h.2.2.1⟩
theorem XC.of {cA : Nat → ClassId} {ad : Nat → Nat} {en : Nat → va_E} {i m p : Nat} {f : Nat → Int} {S : Int → Prop} {G : Prop} {pl : Int} (h : XK cA ad en i m f S G 0 pl) (hp : pl = (p : Int)) (hle : p ≤ m) : XC cA ad en i (some ((m, f), S, G, p)) := by
  subst hp
  exact ⟨h.1, h.2.1, hle, h.2.2⟩
theorem XC.no {cA : Nat → ClassId} {ad : Nat → Nat} {en : Nat → va_E} {i m : Nat} {f : Nat → Int} {S : Int → Prop} {G : Prop} {pl : Int} (h : XK cA ad en i m f S G 1 pl) : XC cA ad en i none := ⟨G, pl, h.1, ⟨m, f, h.2.1⟩, h.2.2.choose, h.2.2.choose_spec.1⟩

set_option maxRecDepth 20000 in
theorem c_X0_separatesAt (l : Launch) (D : va_G) (cA : Nat → ClassId) (n : Nat) (ad : Nat → Nat) (en : Nat → va_E) {i m : Nat} {f : Nat → Int} {S : Int → Prop} {G : Prop} {zz pl : Int} (hi : i + 3 < n) (hk : XK cA ad en i m f S G zz pl) (z1 : Int) (h1 : 0 ≤ z1 ∧ z1 < (m : Int)) : Met l yX0_separatesAt (Cond.code yX0_separatesAt cX0_separatesAt 3 (some .boolean) :: xU) (xrm 2 42) (va_Pc [.ref (ad i), .int (xI z1)] (xB D cA n ad en)) (vp_Si (fun z => z = xb (S (f z1.toNat)))) 0 0 (fun _ => False) := by
  refine xmet (by decide) (Nat.le_of_ble_eq_true rfl) (fun p e s mm args below meth c ls hx hb hrt hml hown hts hlocks hname hB hl => ?_)
  obtain ⟨hP, hK, hN⟩ := hB
  have hl : lv_has ls 3 [(0, .ref (ad i)), (1, .int (xI z1))] := hl
  have hm := hk.2.1.2.2.1
  obtain ⟨g, hg1, hg2⟩ := hk.2.2
  have hs := hk.2.1.2.2.2 z1.toNat (by omega)
  refine lv_aload_n hx hb dX0_separatesAt_0 rfl (lv_at hl 0 rfl) ?_
  refine x_get (T := TX0) (N := 5) hx hb hts uX0 hown hK hP (i := i) (by omega) hk.1 rfl 0 (by decide) u_fl_RX0_12 rfl dX0_separatesAt_1 ?_
  refine lv_iload_n hx hb dX0_separatesAt_4 rfl (lv_at hl 1 rfl) ?_
  refine xv_i (i := i + 1) (As := [.int (xI z1)]) (rest := []) ⟨hx, hb, hml, hown, hts⟩ hl.1 (c_X2_signThere l D cA n ad en (by omega) hk.2.1 z1 (by omega)) k_X2_signThere u_ml_RX0_44 hK hN hP (by omega) hk.2.1.1 rfl rfl rfl rfl (Nat.le_of_ble_eq_true rfl) ⟨Nat.le_of_ble_eq_true rfl, Nat.le_of_ble_eq_true rfl⟩ ⟨Nat.le_of_ble_eq_true rfl, Nat.le_of_ble_eq_true rfl⟩ dX0_separatesAt_5 ?_
  refine lv_istore_n (lv' := [(2, .int (xI (f (Int.toNat z1)))), (0, .ref (ad i)), (1, .int (xI z1))]) hx hb dX0_separatesAt_8 rfl hl (by decide) rfl (fun ls hl => ?_)
  refine lv_iload_n hx hb dX0_separatesAt_9 rfl (lv_at hl 0 rfl) ?_
  refine x_if_lt (tgt := 35) hx hb dX0_separatesAt_10 (by decide) (by omega) (fun c_10 => absurd c_10 (by omega)) (fun c_10 => ?_)
  refine lv_iload_n hx hb dX0_separatesAt_13 rfl (lv_at hl 0 rfl) ?_
  refine lv_aload_n hx hb dX0_separatesAt_14 rfl (lv_at hl 1 rfl) ?_
  refine x_get (T := TX0) (N := 5) hx hb hts uX0 hown hK hP (i := i) (by omega) hk.1 rfl 1 (by decide) u_fl_RX0_18 rfl dX0_separatesAt_15 ?_
  refine x_alen hx hb hK hP (i := i + 3) (by omega) 1 hg1 rfl dX0_separatesAt_18 ?_
  refine x_icmp_ge (tgt := 35) hx hb dX0_separatesAt_19 (by decide) (by omega) (fun c_19 => absurd c_19 (by omega)) (fun c_19 => ?_)
  refine lv_aload_n hx hb dX0_separatesAt_22 rfl (lv_at hl 1 rfl) ?_
  refine x_get (T := TX0) (N := 5) hx hb hts uX0 hown hK hP (i := i) (by omega) hk.1 rfl 1 (by decide) u_fl_RX0_18 rfl dX0_separatesAt_23 ?_
  refine lv_iload_n hx hb dX0_separatesAt_26 rfl (lv_at hl 0 rfl) ?_
  refine x_zld hx hb hK hP (i := i + 3) (by omega) hg1 (p1 := S (f (Int.toNat z1))) (by omega) (by have q9 := hg2 (Int.toNat (f (Int.toNat z1))) (by omega); rw [q9, show ((Int.toNat (f (Int.toNat z1)) : Nat) : Int) = f (Int.toNat z1) by omega]) dX0_separatesAt_27 ?_
  refine x_ifb_eq (tgt := 35) hx hb dX0_separatesAt_28 (by decide)  (fun c_28 => ?_) (fun c_28 => ?_)
  · refine x_iconst hx hb dX0_separatesAt_35 ?_
    exact xr_z hx hb hrt hlocks (xb_0 c_28) dX0_separatesAt_36
  · refine x_iconst hx hb dX0_separatesAt_31 ?_
    refine lv_goto (tgt := 36) hx hb dX0_separatesAt_32 (by decide) ?_
    exact xr_z hx hb hrt hlocks (xb_1 c_28) dX0_separatesAt_36

set_option maxRecDepth 20000 in
theorem c_X0_tokenStart (l : Launch) (D : va_G) (cA : Nat → ClassId) (n : Nat) (ad : Nat → Nat) (en : Nat → va_E) {i m : Nat} {f : Nat → Int} {S : Int → Prop} {G : Prop} {zz pl : Int} (hi : i + 3 < n) (hk : XK cA ad en i m f S G zz pl) (z1 : Int) (h1 : 0 ≤ z1 ∧ z1 ≤ (m : Int)) : Met l yX0_tokenStart (Cond.code yX0_tokenStart cX0_tokenStart 3 (some .int) :: xU) (xrm 3 64) (va_Pc [.ref (ad i), .int (xI z1)] (xB D cA n ad en)) (vp_Si (fun z => z = xI (sp_ts G S f (m : Int) z1))) 0 0 (fun _ => False) := by
  refine xmet (by decide) (Nat.le_of_ble_eq_true rfl) (fun p e s mm args below meth c ls hx hb hrt hml hown hts hlocks hname hB hl => ?_)
  obtain ⟨hP, hK, hN⟩ := hB
  have hl : lv_has ls 3 [(0, .ref (ad i)), (1, .int (xI z1))] := hl
  have hm := hk.2.1.2.2.1
  refine lv_iload_n hx hb dX0_tokenStart_0 rfl (lv_at hl 1 rfl) ?_
  refine lv_istore_n (lv' := [(2, .int (xI z1)), (0, .ref (ad i)), (1, .int (xI z1))]) hx hb dX0_tokenStart_1 rfl hl (by decide) rfl (fun ls hl => ?_)
  have L2 : ∀ (nn : Nat) (a : Int), (z1 ≤ a ∧ a ≤ (m : Int)) → (sp_while (fun q : Int => ¬ G ∧ S (f q.toNat)) a (m : Int) = sp_while (fun q : Int => ¬ G ∧ S (f q.toNat)) z1 (m : Int)) → (((m : Int) - a).toNat) < nn → ∀ ls : Array Slot, lv_has ls 3 [(0, .ref (ad i)), (2, .int (xI a))] → W p l e (xrm 3 64) s mm args below meth c s.heap [] 0 0 (MQ below (vp_Si (fun z => z = xI (sp_ts G S f (m : Int) z1))) args s 0 0 (fun _ => False)) (F0 mm 2 ls []) := by
    intro nn
    induction nn with
    | zero =>
      intro a  ha hF hmm  ls hl
      exact absurd hmm (Nat.not_lt_zero _)
    | succ nn ih =>
      intro a  ha hF hmm  ls hl
      refine lv_aload_n hx hb dX0_tokenStart_2 rfl (lv_at hl 0 rfl) ?_
      refine x_get (T := TX0) (N := 5) hx hb hts uX0 hown hK hP (i := i) (by omega) hk.1 rfl 2 (by decide) u_fl_RX0_38 rfl dX0_tokenStart_3 ?_
      refine x_ifb_ne (tgt := 34) hx hb dX0_tokenStart_6 (by decide)  (fun c_6 => ?_) (fun c_6 => ?_)
      · refine lv_iload_n hx hb dX0_tokenStart_34 rfl (lv_at hl 1 rfl) ?_
        exact xr_i hx hb hrt hlocks (by unfold sp_ts; rw [← hF, sp_while_n (P := (fun q : Int => ¬ G ∧ S (f q.toNat))) (fun _ q => q.1 c_6) (by omega)]) dX0_tokenStart_35
      · refine lv_iload_n hx hb dX0_tokenStart_9 rfl (lv_at hl 1 rfl) ?_
        refine lv_aload_n hx hb dX0_tokenStart_10 rfl (lv_at hl 0 rfl) ?_
        refine x_get (T := TX0) (N := 5) hx hb hts uX0 hown hK hP (i := i) (by omega) hk.1 rfl 0 (by decide) u_fl_RX0_12 rfl dX0_tokenStart_11 ?_
        refine x_getn (T := TX2) (N := 2) hx hb hts uX2 hown hN hK hP (i := i + 1) (by omega) hk.2.1.1 rfl 1 (by decide) (by simp only [xNest, List.mem_cons]; exact Or.inl rfl) rfl dX0_tokenStart_14 ?_
        refine x_icmp_ge (tgt := 34) hx hb dX0_tokenStart_17 (by decide) (by omega) (fun c_17 => ?_) (fun c_17 => ?_)
        · refine lv_iload_n hx hb dX0_tokenStart_34 rfl (lv_at hl 1 rfl) ?_
          exact xr_i hx hb hrt hlocks (by unfold sp_ts; rw [← hF, sp_while_n (P := (fun q : Int => ¬ G ∧ S (f q.toNat))) (fun q => absurd q (by omega)) (by omega)]) dX0_tokenStart_35
        · refine lv_aload_n hx hb dX0_tokenStart_20 rfl (lv_at hl 0 rfl) ?_
          refine lv_iload_n hx hb dX0_tokenStart_21 rfl (lv_at hl 1 rfl) ?_
          refine xv_i (i := i) (As := [.int (xI a)]) (rest := []) ⟨hx, hb, hml, hown, hts⟩ hl.1 (c_X0_separatesAt l D cA n ad en (by omega) hk a (by omega)) k_X0_separatesAt u_ml_RX0_59 hK hN hP (by omega) hk.1 rfl rfl rfl rfl (Nat.le_of_ble_eq_true rfl) ⟨Nat.le_of_ble_eq_true rfl, Nat.le_of_ble_eq_true rfl⟩ ⟨Nat.le_of_ble_eq_true rfl, Nat.le_of_ble_eq_true rfl⟩ dX0_tokenStart_22 ?_
          refine x_ifb_eq (tgt := 34) hx hb dX0_tokenStart_25 (by decide)  (fun c_25 => ?_) (fun c_25 => ?_)
          · refine lv_iload_n hx hb dX0_tokenStart_34 rfl (lv_at hl 1 rfl) ?_
            exact xr_i hx hb hrt hlocks (by unfold sp_ts; rw [← hF, sp_while_n (P := (fun q : Int => ¬ G ∧ S (f q.toNat))) (fun _ q => c_25 q.2) (by omega)]) dX0_tokenStart_35
          · refine x_iinc (lv' := [(2, .int (xI (a + 1))), (0, .ref (ad i))]) (k := 1) hx hb dX0_tokenStart_28 hl rfl (by decide) rfl (fun ls hl => ?_)
            refine lv_goto (tgt := 2) hx hb dX0_tokenStart_31 (by decide) ?_
            exact ih (a + 1) (by omega) ((sp_while_t (P := (fun q : Int => ¬ G ∧ S (f q.toNat))) (by omega) ⟨c_6, c_25⟩).symm.trans hF) (by omega)  ls (lv_sub hl [1, 0] rfl)
  exact L2 _ z1 (by omega) rfl (Nat.lt_succ_self _)  ls (lv_sub hl [1, 0] rfl)

set_option maxRecDepth 20000 in
theorem c_X0_tokenEnd (l : Launch) (D : va_G) (cA : Nat → ClassId) (n : Nat) (ad : Nat → Nat) (en : Nat → va_E) {i m : Nat} {f : Nat → Int} {S : Int → Prop} {G : Prop} {zz pl : Int} (hi : i + 3 < n) (hk : XK cA ad en i m f S G zz pl) (z1 : Int) (h1 : 0 ≤ z1 ∧ z1 < (m : Int)) : Met l yX0_tokenEnd (Cond.code yX0_tokenEnd cX0_tokenEnd 3 (some .int) :: xU) (xrm 3 64) (va_Pc [.ref (ad i), .int (xI z1)] (xB D cA n ad en)) (vp_Si (fun z => z = xI (sp_te S f (m : Int) z1))) 0 0 (fun _ => False) := by
  refine xmet (by decide) (Nat.le_of_ble_eq_true rfl) (fun p e s mm args below meth c ls hx hb hrt hml hown hts hlocks hname hB hl => ?_)
  obtain ⟨hP, hK, hN⟩ := hB
  have hl : lv_has ls 3 [(0, .ref (ad i)), (1, .int (xI z1))] := hl
  have hm := hk.2.1.2.2.1
  refine lv_iload_n hx hb dX0_tokenEnd_0 rfl (lv_at hl 1 rfl) ?_
  refine x_iconst hx hb dX0_tokenEnd_1 ?_
  refine x_iadd hx hb dX0_tokenEnd_2 ?_
  refine lv_istore_n (lv' := [(2, .int (xI (z1 + 1))), (0, .ref (ad i)), (1, .int (xI z1))]) hx hb dX0_tokenEnd_3 rfl hl (by decide) rfl (fun ls hl => ?_)
  have L4 : ∀ (nn : Nat) (a : Int), (z1 + 1 ≤ a ∧ a ≤ (m : Int)) → ((S (f z1.toNat) → a = z1 + 1) ∧ (¬ S (f z1.toNat) → sp_while (fun q : Int => ¬ S (f q.toNat)) (z1 + 1) (m : Int) = sp_while (fun q : Int => ¬ S (f q.toNat)) a (m : Int))) → (((m : Int) - a).toNat) < nn → ∀ ls : Array Slot, lv_has ls 3 [(0, .ref (ad i)), (1, .int (xI z1)), (2, .int (xI a))] → W p l e (xrm 3 64) s mm args below meth c s.heap [] 0 0 (MQ below (vp_Si (fun z => z = xI (sp_te S f (m : Int) z1))) args s 0 0 (fun _ => False)) (F0 mm 4 ls []) := by
    intro nn
    induction nn with
    | zero =>
      intro a  ha hF hmm  ls hl
      exact absurd hmm (Nat.not_lt_zero _)
    | succ nn ih =>
      intro a  ha hF hmm  ls hl
      refine lv_iload_n hx hb dX0_tokenEnd_4 rfl (lv_at hl 2 rfl) ?_
      refine lv_aload_n hx hb dX0_tokenEnd_5 rfl (lv_at hl 0 rfl) ?_
      refine x_get (T := TX0) (N := 5) hx hb hts uX0 hown hK hP (i := i) (by omega) hk.1 rfl 0 (by decide) u_fl_RX0_12 rfl dX0_tokenEnd_6 ?_
      refine x_getn (T := TX2) (N := 2) hx hb hts uX2 hown hN hK hP (i := i + 1) (by omega) hk.2.1.1 rfl 1 (by decide) (by simp only [xNest, List.mem_cons]; exact Or.inl rfl) rfl dX0_tokenEnd_9 ?_
      refine x_icmp_ge (tgt := 37) hx hb dX0_tokenEnd_12 (by decide) (by omega) (fun c_12 => ?_) (fun c_12 => ?_)
      · refine lv_iload_n hx hb dX0_tokenEnd_37 rfl (lv_at hl 2 rfl) ?_
        exact xr_i hx hb hrt hlocks (congrArg xI (sp_te_of hF.1 (fun q => (hF.2 q).trans (sp_while_n (P := (fun q : Int => ¬ S (f q.toNat))) (fun q => absurd q (by omega)) (by omega))))) dX0_tokenEnd_38
      · refine lv_aload_n hx hb dX0_tokenEnd_15 rfl (lv_at hl 0 rfl) ?_
        refine lv_iload_n hx hb dX0_tokenEnd_16 rfl (lv_at hl 1 rfl) ?_
        refine xv_i (i := i) (As := [.int (xI z1)]) (rest := []) ⟨hx, hb, hml, hown, hts⟩ hl.1 (c_X0_separatesAt l D cA n ad en (by omega) hk z1 (by omega)) k_X0_separatesAt u_ml_RX0_59 hK hN hP (by omega) hk.1 rfl rfl rfl rfl (Nat.le_of_ble_eq_true rfl) ⟨Nat.le_of_ble_eq_true rfl, Nat.le_of_ble_eq_true rfl⟩ ⟨Nat.le_of_ble_eq_true rfl, Nat.le_of_ble_eq_true rfl⟩ dX0_tokenEnd_17 ?_
        refine x_ifb_ne (tgt := 37) hx hb dX0_tokenEnd_20 (by decide)  (fun c_20 => ?_) (fun c_20 => ?_)
        · refine lv_iload_n hx hb dX0_tokenEnd_37 rfl (lv_at hl 2 rfl) ?_
          exact xr_i hx hb hrt hlocks (congrArg xI (sp_te_of hF.1 (fun q => (hF.2 q).trans (sp_while_n (P := (fun q : Int => ¬ S (f q.toNat))) (fun _ => absurd c_20 q) (by omega))))) dX0_tokenEnd_38
        · refine lv_aload_n hx hb dX0_tokenEnd_23 rfl (lv_at hl 0 rfl) ?_
          refine lv_iload_n hx hb dX0_tokenEnd_24 rfl (lv_at hl 2 rfl) ?_
          refine xv_i (i := i) (As := [.int (xI a)]) (rest := []) ⟨hx, hb, hml, hown, hts⟩ hl.1 (c_X0_separatesAt l D cA n ad en (by omega) hk a (by omega)) k_X0_separatesAt u_ml_RX0_59 hK hN hP (by omega) hk.1 rfl rfl rfl rfl (Nat.le_of_ble_eq_true rfl) ⟨Nat.le_of_ble_eq_true rfl, Nat.le_of_ble_eq_true rfl⟩ ⟨Nat.le_of_ble_eq_true rfl, Nat.le_of_ble_eq_true rfl⟩ dX0_tokenEnd_25 ?_
          refine x_ifb_ne (tgt := 37) hx hb dX0_tokenEnd_28 (by decide)  (fun c_28 => ?_) (fun c_28 => ?_)
          · refine lv_iload_n hx hb dX0_tokenEnd_37 rfl (lv_at hl 2 rfl) ?_
            exact xr_i hx hb hrt hlocks (congrArg xI (sp_te_of hF.1 (fun q => (hF.2 q).trans (sp_while_n (P := (fun q : Int => ¬ S (f q.toNat))) (fun _ q => q c_28) (by omega))))) dX0_tokenEnd_38
          · refine x_iinc (lv' := [(2, .int (xI (a + 1))), (0, .ref (ad i)), (1, .int (xI z1))]) (k := 2) hx hb dX0_tokenEnd_31 hl rfl (by decide) rfl (fun ls hl => ?_)
            refine lv_goto (tgt := 4) hx hb dX0_tokenEnd_34 (by decide) ?_
            exact ih (a + 1) (by omega) (⟨fun q => absurd q c_20, fun q => (hF.2 q).trans (sp_while_t (P := (fun q : Int => ¬ S (f q.toNat))) (by omega) c_28)⟩) (by omega)  ls (lv_sub hl [1, 2, 0] rfl)
  exact L4 _ (z1 + 1) (by omega) (⟨fun _ => rfl, fun _ => rfl⟩) (Nat.lt_succ_self _)  ls (lv_sub hl [1, 2, 0] rfl)

set_option maxRecDepth 20000 in
theorem c_X0_hasToken (l : Launch) (D : va_G) (cA : Nat → ClassId) (n : Nat) (ad : Nat → Nat) (en : Nat → va_E) {i m : Nat} {f : Nat → Int} {S : Int → Prop} {G : Prop} {zz pl : Int} (hi : i + 3 < n) (hk : XK cA ad en i m f S G zz pl) (hpl : 0 ≤ pl ∧ pl ≤ (m : Int)) : Met l yX0_hasToken (Cond.code yX0_hasToken cX0_hasToken 1 (some .boolean) :: xU) (xrm 4 86) (va_Pc [.ref (ad i)] (xB D cA n ad en)) (vp_Si (fun z => z = xb (sp_ts G S f (m : Int) pl < (m : Int)))) 0 0 (fun _ => False) := by
  refine xmet (by decide) (Nat.le_of_ble_eq_true rfl) (fun p e s mm args below meth c ls hx hb hrt hml hown hts hlocks hname hB hl => ?_)
  obtain ⟨hP, hK, hN⟩ := hB
  have hl : lv_has ls 1 [(0, .ref (ad i))] := hl
  have hm := hk.2.1.2.2.1
  refine lv_aload_n hx hb dX0_hasToken_0 rfl (lv_at hl 0 rfl) ?_
  refine lv_aload_n hx hb dX0_hasToken_1 rfl (lv_at hl 0 rfl) ?_
  refine x_get (T := TX0) (N := 5) hx hb hts uX0 hown hK hP (i := i) (by omega) hk.1 rfl 4 (by decide) u_fl_RX0_41 rfl dX0_hasToken_2 ?_
  have hts5 := sp_ts_b (G := G) (S := S) (f := f) (m := (m : Int)) (a := pl) (by omega)
  refine xv_i (i := i) (As := [.int (xI pl)]) (rest := []) ⟨hx, hb, hml, hown, hts⟩ hl.1 (c_X0_tokenStart l D cA n ad en (by omega) hk pl (by omega)) k_X0_tokenStart u_ml_RX0_48 hK hN hP (by omega) hk.1 rfl rfl rfl rfl (Nat.le_of_ble_eq_true rfl) ⟨Nat.le_of_ble_eq_true rfl, Nat.le_of_ble_eq_true rfl⟩ ⟨Nat.le_of_ble_eq_true rfl, Nat.le_of_ble_eq_true rfl⟩ dX0_hasToken_5 ?_
  refine lv_aload_n hx hb dX0_hasToken_8 rfl (lv_at hl 0 rfl) ?_
  refine x_get (T := TX0) (N := 5) hx hb hts uX0 hown hK hP (i := i) (by omega) hk.1 rfl 0 (by decide) u_fl_RX0_12 rfl dX0_hasToken_9 ?_
  refine x_getn (T := TX2) (N := 2) hx hb hts uX2 hown hN hK hP (i := i + 1) (by omega) hk.2.1.1 rfl 1 (by decide) (by simp only [xNest, List.mem_cons]; exact Or.inl rfl) rfl dX0_hasToken_12 ?_
  refine x_icmp_ge (tgt := 22) hx hb dX0_hasToken_15 (by decide) (by omega) (fun c_15 => ?_) (fun c_15 => ?_)
  · refine x_iconst hx hb dX0_hasToken_22 ?_
    exact xr_z hx hb hrt hlocks (xb_0 (by omega)) dX0_hasToken_23
  · refine x_iconst hx hb dX0_hasToken_18 ?_
    refine lv_goto (tgt := 23) hx hb dX0_hasToken_19 (by decide) ?_
    exact xr_z hx hb hrt hlocks (xb_1 (by omega)) dX0_hasToken_23

set_option maxRecDepth 20000 in
theorem c_X0_tokensLeft (l : Launch) (D : va_G) (cA : Nat → ClassId) (n : Nat) (ad : Nat → Nat) (en : Nat → va_E) {i m : Nat} {f : Nat → Int} {S : Int → Prop} {G : Prop} {zz pl : Int} (hi : i + 3 < n) (hk : XK cA ad en i m f S G zz pl) (hpl : 0 ≤ pl ∧ pl ≤ (m : Int)) : Met l yX0_tokensLeft (Cond.code yX0_tokensLeft cX0_tokensLeft 3 (some .int) :: xU) (xrm 4 86) (va_Pc [.ref (ad i)] (xB D cA n ad en)) (vp_Si (fun z => z = xI (sp_left G S f (m : Int) pl))) 0 0 (fun _ => False) := by
  refine xmet (by decide) (Nat.le_of_ble_eq_true rfl) (fun p e s mm args below meth c ls hx hb hrt hml hown hts hlocks hname hB hl => ?_)
  obtain ⟨hP, hK, hN⟩ := hB
  have hl : lv_has ls 3 [(0, .ref (ad i))] := hl
  have hm := hk.2.1.2.2.1
  refine lv_aload_n hx hb dX0_tokensLeft_0 rfl (lv_at hl 0 rfl) ?_
  refine lv_aload_n hx hb dX0_tokensLeft_1 rfl (lv_at hl 0 rfl) ?_
  refine x_get (T := TX0) (N := 5) hx hb hts uX0 hown hK hP (i := i) (by omega) hk.1 rfl 4 (by decide) u_fl_RX0_41 rfl dX0_tokensLeft_2 ?_
  have hts5 := sp_ts_b (G := G) (S := S) (f := f) (m := (m : Int)) (a := pl) (by omega)
  refine xv_i (i := i) (As := [.int (xI pl)]) (rest := []) ⟨hx, hb, hml, hown, hts⟩ hl.1 (c_X0_tokenStart l D cA n ad en (by omega) hk pl (by omega)) k_X0_tokenStart u_ml_RX0_48 hK hN hP (by omega) hk.1 rfl rfl rfl rfl (Nat.le_of_ble_eq_true rfl) ⟨Nat.le_of_ble_eq_true rfl, Nat.le_of_ble_eq_true rfl⟩ ⟨Nat.le_of_ble_eq_true rfl, Nat.le_of_ble_eq_true rfl⟩ dX0_tokensLeft_5 ?_
  refine lv_istore_n (lv' := [(1, .int (xI (sp_ts G S f (m : Int) pl))), (0, .ref (ad i))]) hx hb dX0_tokensLeft_8 rfl hl (by decide) rfl (fun ls hl => ?_)
  refine x_iconst hx hb dX0_tokensLeft_9 ?_
  refine lv_istore_n (lv' := [(2, .int (xI 0)), (1, .int (xI (sp_ts G S f (m : Int) pl))), (0, .ref (ad i))]) hx hb dX0_tokensLeft_10 rfl hl (by decide) rfl (fun ls hl => ?_)
  have L11 : ∀ (nn : Nat) (a : Int) (q : Int), (0 ≤ q ∧ q ≤ a ∧ a ≤ (m : Int)) → (q + sp_tl G S f (m : Int) (201 - q).toNat a = sp_left G S f (m : Int) pl) → (((m : Int) - a).toNat) < nn → ∀ ls : Array Slot, lv_has ls 3 [(0, .ref (ad i)), (1, .int (xI a)), (2, .int (xI q))] → W p l e (xrm 4 86) s mm args below meth c s.heap [] 0 0 (MQ below (vp_Si (fun z => z = xI (sp_left G S f (m : Int) pl))) args s 0 0 (fun _ => False)) (F0 mm 11 ls []) := by
    intro nn
    induction nn with
    | zero =>
      intro a q  ha hF hmm  ls hl
      exact absurd hmm (Nat.not_lt_zero _)
    | succ nn ih =>
      intro a q  ha hF hmm  ls hl
      refine lv_iload_n hx hb dX0_tokensLeft_11 rfl (lv_at hl 2 rfl) ?_
      refine x_sipush hx hb dX0_tokensLeft_12 (by decide +kernel) ?_
      refine x_icmp_ge (tgt := 45) hx hb dX0_tokensLeft_15 (by decide) (by omega) (fun c_15 => ?_) (fun c_15 => ?_)
      · refine lv_iload_n hx hb dX0_tokensLeft_45 rfl (lv_at hl 2 rfl) ?_
        exact xr_i hx hb hrt hlocks (by rw [← hF, sp_tl_e _ (by omega), Int.add_zero]) dX0_tokensLeft_46
      · refine lv_iload_n hx hb dX0_tokensLeft_18 rfl (lv_at hl 1 rfl) ?_
        refine lv_aload_n hx hb dX0_tokensLeft_19 rfl (lv_at hl 0 rfl) ?_
        refine x_get (T := TX0) (N := 5) hx hb hts uX0 hown hK hP (i := i) (by omega) hk.1 rfl 0 (by decide) u_fl_RX0_12 rfl dX0_tokensLeft_20 ?_
        refine x_getn (T := TX2) (N := 2) hx hb hts uX2 hown hN hK hP (i := i + 1) (by omega) hk.2.1.1 rfl 1 (by decide) (by simp only [xNest, List.mem_cons]; exact Or.inl rfl) rfl dX0_tokensLeft_23 ?_
        refine x_icmp_ge (tgt := 45) hx hb dX0_tokensLeft_26 (by decide) (by omega) (fun c_26 => ?_) (fun c_26 => ?_)
        · refine lv_iload_n hx hb dX0_tokensLeft_45 rfl (lv_at hl 2 rfl) ?_
          exact xr_i hx hb hrt hlocks (by rw [← hF, sp_tl_e _ (by omega), Int.add_zero]) dX0_tokensLeft_46
        · refine x_iinc (lv' := [(2, .int (xI (q + 1))), (0, .ref (ad i)), (1, .int (xI a))]) (k := 2) hx hb dX0_tokensLeft_29 hl rfl (by decide) rfl (fun ls hl => ?_)
          refine lv_aload_n hx hb dX0_tokensLeft_32 rfl (lv_at hl 1 rfl) ?_
          refine lv_aload_n hx hb dX0_tokensLeft_33 rfl (lv_at hl 1 rfl) ?_
          refine lv_iload_n hx hb dX0_tokensLeft_34 rfl (lv_at hl 2 rfl) ?_
          have hte35 := sp_te_b (S := S) (f := f) (m := (m : Int)) (a := a) (by omega)
          refine xv_i (i := i) (As := [.int (xI a)]) (rest := [.ref (ad i)]) ⟨hx, hb, hml, hown, hts⟩ hl.1 (c_X0_tokenEnd l D cA n ad en (by omega) hk a (by omega)) k_X0_tokenEnd u_ml_RX0_51 hK hN hP (by omega) hk.1 rfl rfl rfl rfl (Nat.le_of_ble_eq_true rfl) ⟨Nat.le_of_ble_eq_true rfl, Nat.le_of_ble_eq_true rfl⟩ ⟨Nat.le_of_ble_eq_true rfl, Nat.le_of_ble_eq_true rfl⟩ dX0_tokensLeft_35 ?_
          have hts38 := sp_ts_b (G := G) (S := S) (f := f) (m := (m : Int)) (a := (sp_te S f (m : Int) a)) (by omega)
          refine xv_i (i := i) (As := [.int (xI (sp_te S f (m : Int) a))]) (rest := []) ⟨hx, hb, hml, hown, hts⟩ hl.1 (c_X0_tokenStart l D cA n ad en (by omega) hk (sp_te S f (m : Int) a) (by omega)) k_X0_tokenStart u_ml_RX0_48 hK hN hP (by omega) hk.1 rfl rfl rfl rfl (Nat.le_of_ble_eq_true rfl) ⟨Nat.le_of_ble_eq_true rfl, Nat.le_of_ble_eq_true rfl⟩ ⟨Nat.le_of_ble_eq_true rfl, Nat.le_of_ble_eq_true rfl⟩ dX0_tokensLeft_38 ?_
          refine lv_istore_n (lv' := [(1, .int (xI (sp_ts G S f (m : Int) (sp_te S f (m : Int) a)))), (2, .int (xI (q + 1))), (0, .ref (ad i))]) hx hb dX0_tokensLeft_41 rfl hl (by decide) rfl (fun ls hl => ?_)
          refine lv_goto (tgt := 11) hx hb dX0_tokensLeft_42 (by decide) ?_
          exact ih (sp_ts G S f (m : Int) (sp_te S f (m : Int) a)) (q + 1) (by omega) ((sp_tl_t (by omega) (by omega)).symm.trans hF) (by omega)  ls (lv_sub hl [2, 0, 1] rfl)
  exact L11 _ (sp_ts G S f (m : Int) pl) 0 (by omega) (Int.zero_add _) (Nat.lt_succ_self _)  ls (lv_sub hl [2, 1, 0] rfl)

set_option maxRecDepth 20000 in
theorem c_X0_separateBy (l : Launch) (D : va_G) (cA : Nat → ClassId) (n : Nat) (ad : Nat → Nat) (en : Nat → va_E) (sz : Nat) {i m : Nat} {f : Nat → Int} {G : Prop} {zz pl : Int} (hi : i + 3 < n) (hk : XKw cA ad en i m f G zz pl) {j k : Nat} {h : Nat → Int} (hj : j + 1 < n) (hq : XR cA ad en j k h) (hij : j + 1 < i ∨ i + 3 < j) : Met l yX0_separateBy (Cond.code yX0_separateBy cX0_separateBy 4 none :: xU) (xrm 2 42) (va_Pc [.ref (ad i), .ref (ad j)] (xM D cA n ad en sz)) (va_Qv (fun u => XK cA ad u i m f (sp_sep h k) G zz pl ∧ xO (i + 3) (i + 4) en u) (xE D n ad) (xA n ad sz)) 0 0 (xA n ad sz) := by
  refine xmet (by decide) (Nat.le_of_ble_eq_true rfl) (fun p e s mm args below meth c ls hx hb hrt hml hown hts hlocks hname hB hl => ?_)
  obtain ⟨⟨hP, hK, hN⟩, hsz, hDt⟩ := hB
  have hD : xD (xA n ad sz) n ad := xD_self hDt sz
  have hA : ∀ q : Nat, s.heap.size ≤ q → xA n ad sz q := fun q h => Or.inr (by rw [← hsz]; exact h)
  have hS : va_S (xA n ad sz) s.heap s.heap [] := va_S.rf
  have hown : s.vm.findClass RX0 = some mm.cls := hown
  have hl : lv_has ls 4 [(0, .ref (ad i)), (1, .ref (ad j))] := hl
  have hm := hk.2.1.2.2.1
  have hm2 := hq.2.2.1
  obtain ⟨g, hg1⟩ := hk.2.2
  refine x_iconst hx hb dX0_separateBy_0 ?_
  refine lv_istore_n (lv' := [(2, .int (xI 0)), (0, .ref (ad i)), (1, .ref (ad j))]) hx hb dX0_separateBy_1 rfl hl (by decide) rfl (fun ls hl => ?_)
  have L2 : ∀ (nn : Nat) (a : Int) (ew2 : Nat → va_E) (H : Heap) (locs : List Loc), (0 ≤ a ∧ a ≤ 256) → ((256 - a).toNat) < nn → (XKw cA ad ew2 i m f G zz pl) → (XR cA ad ew2 j k h) → (xO (i + 3) (i + 4) en ew2) → (∃ g : Nat → Int32, ew2 (i + 3) = .inl (cA 1, 256, .inl g) ∧ ∀ t : Nat, (t : Int) < a → g t = xb False) → va_P D vwCl (xw n ad ew2) H → va_S (xA n ad sz) s.heap H locs → ∀ ls : Array Slot, lv_has ls 4 [(0, .ref (ad i)), (1, .ref (ad j)), (2, .int (xI a))] → W p l e (xrm 2 42) s mm args below meth c H locs 0 0 (MQ below (va_Qv (fun u => XK cA ad u i m f (sp_sep h k) G zz pl ∧ xO (i + 3) (i + 4) en u) (xE D n ad) (xA n ad sz)) args s 0 0 (xA n ad sz)) (F0 mm 2 ls []) := by
    intro nn
    induction nn with
    | zero =>
      intro a ew2 H locs ha hmm hk hq ho hG hP hS ls hl
      exact absurd hmm (Nat.not_lt_zero _)
    | succ nn ih =>
      intro a ew2 H locs ha hmm hk hq ho hG hP hS ls hl
      obtain ⟨g, hg1, hg2⟩ := hG
      refine lv_iload_n hx hb dX0_separateBy_2 rfl (lv_at hl 2 rfl) ?_
      refine lv_aload_n hx hb dX0_separateBy_3 rfl (lv_at hl 0 rfl) ?_
      refine x_get (T := TX0) (N := 5) hx hb hts uX0 hown hK hP (i := i) (by omega) hk.1 rfl 1 (by decide) u_fl_RX0_18 rfl dX0_separateBy_4 ?_
      refine x_alen hx hb hK hP (i := i + 3) (by omega) 1 hg1 rfl dX0_separateBy_7 ?_
      refine x_icmp_ge (tgt := 24) hx hb dX0_separateBy_8 (by decide) (by omega) (fun c_8 => ?_) (fun c_8 => ?_)
      · refine x_iconst hx hb dX0_separateBy_24 ?_
        refine lv_istore_n (lv' := [(2, .int (xI 0)), (0, .ref (ad i)), (1, .ref (ad j))]) hx hb dX0_separateBy_25 rfl hl (by decide) rfl (fun ls hl => ?_)
        have L26 : ∀ (nn : Nat) (a : Int) (ew26 : Nat → va_E) (H : Heap) (locs : List Loc), (0 ≤ a ∧ a ≤ (k : Int)) → (((k : Int) - a).toNat) < nn → (XKw cA ad ew26 i m f G zz pl) → (XR cA ad ew26 j k h) → (xO (i + 3) (i + 4) en ew26) → (∃ g : Nat → Int32, ew26 (i + 3) = .inl (cA 1, 256, .inl g) ∧ ∀ t : Nat, t < 256 → g t = xb (∃ u : Nat, (u : Int) < a ∧ h u = (t : Int))) → va_P D vwCl (xw n ad ew26) H → va_S (xA n ad sz) s.heap H locs → ∀ ls : Array Slot, lv_has ls 4 [(0, .ref (ad i)), (1, .ref (ad j)), (2, .int (xI a))] → W p l e (xrm 2 42) s mm args below meth c H locs 0 0 (MQ below (va_Qv (fun u => XK cA ad u i m f (sp_sep h k) G zz pl ∧ xO (i + 3) (i + 4) en u) (xE D n ad) (xA n ad sz)) args s 0 0 (xA n ad sz)) (F0 mm 26 ls []) := by
          intro nn
          induction nn with
          | zero =>
            intro a ew26 H locs ha hmm hk hq ho hG hP hS ls hl
            exact absurd hmm (Nat.not_lt_zero _)
          | succ nn ih =>
            intro a ew26 H locs ha hmm hk hq ho hG hP hS ls hl
            obtain ⟨g, hg1, hg2⟩ := hG
            refine lv_iload_n hx hb dX0_separateBy_26 rfl (lv_at hl 2 rfl) ?_
            refine lv_aload_n hx hb dX0_separateBy_27 rfl (lv_at hl 1 rfl) ?_
            refine x_getn (T := TX2) (N := 2) hx hb hts uX2 hown hN hK hP (i := j) (by omega) hq.1 rfl 1 (by decide) (by simp only [xNest, List.mem_cons]; exact Or.inl rfl) rfl dX0_separateBy_28 ?_
            refine x_icmp_ge (tgt := 66) hx hb dX0_separateBy_31 (by decide) (by omega) (fun c_31 => ?_) (fun c_31 => ?_)
            · exact xe_v hx hb hrt hlocks hP hS (⟨⟨hk.1, hk.2.1, g, hg1, fun t ht => (hg2 t ht).trans (xb_iff ⟨fun w => by obtain ⟨u, hu, hu2⟩ := w; exact ⟨u, by omega, hu2⟩, fun w => by obtain ⟨u, hu, hu2⟩ := w; exact ⟨u, by omega, hu2⟩⟩)⟩, ho⟩) dX0_separateBy_66
            · refine lv_aload_n hx hb dX0_separateBy_34 rfl (lv_at hl 1 rfl) ?_
              refine lv_iload_n hx hb dX0_separateBy_35 rfl (lv_at hl 2 rfl) ?_
              refine xv_i (i := j) (As := [.int (xI a)]) (rest := []) ⟨hx, hb, hml, hown, hts⟩ hl.1 (c_X2_signThere l D cA n ad ew26 (by omega) hq a (by omega)) k_X2_signThere u_ml_RX0_44 hK hN hP (by omega) hq.1 rfl rfl rfl rfl (Nat.le_of_ble_eq_true rfl) ⟨Nat.le_of_ble_eq_true rfl, Nat.le_of_ble_eq_true rfl⟩ ⟨Nat.le_of_ble_eq_true rfl, Nat.le_of_ble_eq_true rfl⟩ dX0_separateBy_36 ?_
              have hs := hq.2.2.2 a.toNat (by omega)
              refine lv_istore_n (lv' := [(3, .int (xI (h (Int.toNat a)))), (0, .ref (ad i)), (1, .ref (ad j)), (2, .int (xI a))]) hx hb dX0_separateBy_39 rfl hl (by decide) rfl (fun ls hl => ?_)
              refine lv_iload_n hx hb dX0_separateBy_40 rfl (lv_at hl 0 rfl) ?_
              refine x_if_lt (tgt := 60) hx hb dX0_separateBy_41 (by decide) (by omega) (fun c_41 => absurd c_41 (by omega)) (fun c_41 => ?_)
              refine lv_iload_n hx hb dX0_separateBy_44 rfl (lv_at hl 0 rfl) ?_
              refine lv_aload_n hx hb dX0_separateBy_45 rfl (lv_at hl 1 rfl) ?_
              refine x_get (T := TX0) (N := 5) hx hb hts uX0 hown hK hP (i := i) (by omega) hk.1 rfl 1 (by decide) u_fl_RX0_18 rfl dX0_separateBy_46 ?_
              refine x_alen hx hb hK hP (i := i + 3) (by omega) 1 hg1 rfl dX0_separateBy_49 ?_
              refine x_icmp_ge (tgt := 60) hx hb dX0_separateBy_50 (by decide) (by omega) (fun c_50 => absurd c_50 (by omega)) (fun c_50 => ?_)
              refine lv_aload_n hx hb dX0_separateBy_53 rfl (lv_at hl 1 rfl) ?_
              refine x_get (T := TX0) (N := 5) hx hb hts uX0 hown hK hP (i := i) (by omega) hk.1 rfl 1 (by decide) u_fl_RX0_18 rfl dX0_separateBy_54 ?_
              refine lv_iload_n hx hb dX0_separateBy_57 rfl (lv_at hl 0 rfl) ?_
              refine x_iconst hx hb dX0_separateBy_58 ?_
              refine x_zst hx hb hK hP hD hS (i := i + 3) (by omega) hg1 (p1 := True) (xb_1 trivial) (by omega) dX0_separateBy_59 (fun H locs hP hS => ?_)
              have hP : va_P D vwCl (xw n ad (va_up ew26 (i + 3) (.inl (cA 1, 256, .inl (upd g (Int.toNat (h (Int.toNat a))) (xb True)))))) H := hP
              obtain ⟨en1, he1⟩ : ∃ z, z = va_up ew26 (i + 3) (.inl (cA 1, 256, .inl (upd g (Int.toNat (h (Int.toNat a))) (xb True)))) := ⟨_, rfl⟩
              rw [← he1] at hP
              have ho1 : en1 (i + 3) = (.inl (cA 1, 256, .inl (upd g (Int.toNat (h (Int.toNat a))) (xb True)))) := by rw [he1, va_up_self]
              have hk2 := (show en1 i = ew26 i from by rw [he1, va_up_ne _ _ (by omega)]).trans hk.1
              have hk3 := (show en1 (i + 1) = ew26 (i + 1) from by rw [he1, va_up_ne _ _ (by omega)]).trans hk.2.1.1
              have hk4 := (show en1 j = ew26 j from by rw [he1, va_up_ne _ _ (by omega)]).trans hq.1
              refine x_iinc (lv' := [(2, .int (xI (a + 1))), (3, .int (xI (h (Int.toNat a)))), (0, .ref (ad i)), (1, .ref (ad j))]) (k := 3) hx hb dX0_separateBy_60 hl rfl (by decide) rfl (fun ls hl => ?_)
              refine lv_goto (tgt := 26) hx hb dX0_separateBy_63 (by decide) ?_
              have hk1 : XKw cA ad en1 i m f G zz pl := by rw [he1]; exact hk.ar _
              have ho2 : xO (i + 3) (i + 4) en en1 := by rw [he1]; exact ho.up (by omega) (by omega)
              have hq1 : XR cA ad en1 j k h := hq.ko (a := i + 3) (b := i + 4) (by rw [he1]; exact xO.rf.up (by omega) (by omega)) (by omega)
              have hG1 : ∃ g : Nat → Int32, en1 (i + 3) = .inl (cA 1, 256, .inl g) ∧ ∀ t : Nat, t < 256 → g t = xb (∃ u : Nat, (u : Int) < a + 1 ∧ h u = (t : Int)) := ⟨_, ho1, fun t ht => by
          by_cases q : t = Int.toNat (h (Int.toNat a))
          · have q2 : h a.toNat = (t : Int) := by omega
            exact (if_pos q).trans (xb_iff ⟨fun _ => ⟨a.toNat, by omega, q2⟩, fun _ => trivial⟩)
          · refine (if_neg q).trans ((hg2 t ht).trans (xb_iff ⟨fun w => ?_, fun w => ?_⟩))
            · obtain ⟨u, hu, hu2⟩ := w
              exact ⟨u, by omega, hu2⟩
            · obtain ⟨u, hu, hu2⟩ := w
              refine ⟨u, ?_, hu2⟩
              rcases (show (u : Int) < a ∨ u = a.toNat by omega) with w | w
              · exact w
              · subst w; omega⟩
              exact ih (a + 1) en1 _ _ (by omega) (by omega) hk1 hq1 ho2 hG1 hP hS ls (lv_sub hl [2, 3, 0] rfl)
        exact L26 _ 0 ew2 _ _ (by omega) (Nat.lt_succ_self _) hk hq ho (⟨g, hg1, fun t ht => (hg2 t (by omega)).trans (xb_iff ⟨False.elim, fun q => by obtain ⟨u, hu, _⟩ := q; omega⟩)⟩) hP hS ls (lv_sub hl [1, 2, 0] rfl)
      · refine lv_aload_n hx hb dX0_separateBy_11 rfl (lv_at hl 0 rfl) ?_
        refine x_get (T := TX0) (N := 5) hx hb hts uX0 hown hK hP (i := i) (by omega) hk.1 rfl 1 (by decide) u_fl_RX0_18 rfl dX0_separateBy_12 ?_
        refine lv_iload_n hx hb dX0_separateBy_15 rfl (lv_at hl 2 rfl) ?_
        refine x_iconst hx hb dX0_separateBy_16 ?_
        refine x_zst hx hb hK hP hD hS (i := i + 3) (by omega) hg1 (p1 := False) (xb_0 id) (by omega) dX0_separateBy_17 (fun H locs hP hS => ?_)
        have hP : va_P D vwCl (xw n ad (va_up ew2 (i + 3) (.inl (cA 1, 256, .inl (upd g (Int.toNat a) (xb False)))))) H := hP
        obtain ⟨en5, he5⟩ : ∃ z, z = va_up ew2 (i + 3) (.inl (cA 1, 256, .inl (upd g (Int.toNat a) (xb False)))) := ⟨_, rfl⟩
        rw [← he5] at hP
        have ho5 : en5 (i + 3) = (.inl (cA 1, 256, .inl (upd g (Int.toNat a) (xb False)))) := by rw [he5, va_up_self]
        have hk6 := (show en5 i = ew2 i from by rw [he5, va_up_ne _ _ (by omega)]).trans hk.1
        have hk7 := (show en5 (i + 1) = ew2 (i + 1) from by rw [he5, va_up_ne _ _ (by omega)]).trans hk.2.1.1
        have hk8 := (show en5 j = ew2 j from by rw [he5, va_up_ne _ _ (by omega)]).trans hq.1
        refine x_iinc (lv' := [(2, .int (xI (a + 1))), (0, .ref (ad i)), (1, .ref (ad j))]) (k := 2) hx hb dX0_separateBy_18 hl rfl (by decide) rfl (fun ls hl => ?_)
        refine lv_goto (tgt := 2) hx hb dX0_separateBy_21 (by decide) ?_
        have hk1 : XKw cA ad en5 i m f G zz pl := by rw [he5]; exact hk.ar _
        have ho2 : xO (i + 3) (i + 4) en en5 := by rw [he5]; exact ho.up (by omega) (by omega)
        have hq1 : XR cA ad en5 j k h := hq.ko (a := i + 3) (b := i + 4) (by rw [he5]; exact xO.rf.up (by omega) (by omega)) (by omega)
        have hG1 : ∃ g : Nat → Int32, en5 (i + 3) = .inl (cA 1, 256, .inl g) ∧ ∀ t : Nat, (t : Int) < a + 1 → g t = xb False := ⟨_, ho5, fun t ht => by
          by_cases q : t = Int.toNat a
          · subst q; exact if_pos rfl
          · show (if t = Int.toNat a then xb False else g t) = xb False
            rw [if_neg q]; exact hg2 t (by omega)⟩
        exact ih (a + 1) en5 _ _ (by omega) (by omega) hk1 hq1 ho2 hG1 hP hS ls (lv_sub hl [1, 2, 0] rfl)
  exact L2 _ 0 en _ _ (by omega) (Nat.lt_succ_self _) hk hq xO.rf (⟨g, hg1, fun t ht => absurd ht (by omega)⟩) hP hS ls (lv_sub hl [1, 2, 0] rfl)
end
section
set_option maxRecDepth 20000 in
theorem c_X0_begin (l : Launch) (D : va_G) (cA : Nat → ClassId) (n : Nat) (ad : Nat → Nat) (en : Nat → va_E) (sz : Nat) {i m : Nat} {f : Nat → Int} {G : Prop} {zz pl : Int} (hi : i + 3 < n) (hk : XKw cA ad en i m f G zz pl) {j k : Nat} {h : Nat → Int} (hj : j + 1 < n) (hq : XR cA ad en j k h) {j2 k2 : Nat} {h2 : Nat → Int} (hj2 : j2 + 1 < n) (hq2 : XR cA ad en j2 k2 h2) (hij : j + 1 < i ∨ i + 3 < j) (hij2 : j2 + 1 < i ∨ i + 3 < j2) (G1 : Prop) : Met l yX0_begin (Cond.code yX0_begin cX0_begin 4 none :: xU) (xrm 3 65) (va_Pc [.ref (ad i), .ref (ad j), .ref (ad j2), .int (xb G1)] (xM D cA n ad en sz)) (va_Qv (fun u => XK cA ad u i k h (sp_sep h2 k2) G1 0 0 ∧ xO i (i + 4) en u) (xE D n ad) (xA n ad sz)) 0 0 (xA n ad sz) := by
  refine xmet (by decide) (Nat.le_of_ble_eq_true rfl) (fun p e s mm args below meth c ls hx hb hrt hml hown hts hlocks hname hB hl => ?_)
  obtain ⟨⟨hP, hK, hN⟩, hsz, hDt⟩ := hB
  have hD : xD (xA n ad sz) n ad := xD_self hDt sz
  have hA : ∀ q : Nat, s.heap.size ≤ q → xA n ad sz q := fun q h => Or.inr (by rw [← hsz]; exact h)
  have hS : va_S (xA n ad sz) s.heap s.heap [] := va_S.rf
  have hown : s.vm.findClass RX0 = some mm.cls := hown
  have hl : lv_has ls 4 [(0, .ref (ad i)), (1, .ref (ad j)), (2, .ref (ad j2)), (3, .int (xb G1))] := hl
  have hm := hk.2.1.2.2.1
  have hm2 := hq.2.2.1
  refine lv_aload_n hx hb dX0_begin_0 rfl (lv_at hl 0 rfl) ?_
  refine x_get (T := TX0) (N := 5) hx hb hts uX0 hown hK hP (i := i) (by omega) hk.1 rfl 0 (by decide) u_fl_RX0_12 rfl dX0_begin_1 ?_
  refine lv_aload_n hx hb dX0_begin_4 rfl (lv_at hl 1 rfl) ?_
  refine x_iconst hx hb dX0_begin_5 ?_
  refine lv_aload_n hx hb dX0_begin_6 rfl (lv_at hl 1 rfl) ?_
  refine x_getn (T := TX2) (N := 2) hx hb hts uX2 hown hN hK hP (i := j) (by omega) hq.1 rfl 1 (by decide) (by simp only [xNest, List.mem_cons]; exact Or.inl rfl) rfl dX0_begin_7 ?_
  refine xm_i (i := i + 1) (As := [.ref (ad j), .int (xI 0), .int (xI (k : Int))]) (rest := []) ⟨hx, hb, hml, hown, hts⟩ hl.1 (c_X2_copy l D cA n ad en _ (by omega) hk.2.1 (by omega) hq (by omega) 0 (k : Int) (by omega) (by omega)) k_X2_copy u_ml_RX0_30 hK hN hP (by omega) hk.2.1.1 rfl rfl rfl rfl (Nat.le_of_ble_eq_true rfl) ⟨Nat.le_of_ble_eq_true rfl, Nat.le_of_ble_eq_true rfl⟩ ⟨Nat.le_of_ble_eq_true rfl, Nat.le_of_ble_eq_true rfl⟩ dX0_begin_10 hD hS hA (fun r1 en1 H locs hp1 hP hS => ?_)
  rcases hp1 with ⟨hsp, hrv, hx1, hoc⟩ | ⟨hsp, hrv, hu⟩
  · subst hrv
    have hk := hk.rw hoc (hx1.to (m' := k) (f' := h) (by omega) (fun t _ => by rw [show Int.toNat 0 + t = t from Nat.zero_add t]))
    have hq2 := hq2.ko hoc (by omega)
    have ho : xO i (i + 4) en en1 := hoc.mo (by omega) (by omega)
    refine lv_pop hx hb dX0_begin_13 rfl ?_
    refine lv_aload_n hx hb dX0_begin_14 rfl (lv_at hl 0 rfl) ?_
    refine lv_aload_n hx hb dX0_begin_15 rfl (lv_at hl 2 rfl) ?_
    refine xm_v (i := i) (As := [.ref (ad j2)]) (rest := []) ⟨hx, hb, hml, hown, hts⟩ hl.1 (c_X0_separateBy l D cA n ad en1 _ (by omega) hk (by omega) hq2 (by omega)) k_X0_separateBy u_ml_RX0_34 hK hN hP (by omega) hk.1 rfl rfl rfl rfl (Nat.le_of_ble_eq_true rfl) ⟨Nat.le_of_ble_eq_true rfl, Nat.le_of_ble_eq_true rfl⟩ ⟨Nat.le_of_ble_eq_true rfl, Nat.le_of_ble_eq_true rfl⟩ dX0_begin_16 hD hS hA (fun en2 H locs hp2 hP hS => ?_)
    obtain ⟨hk, hosb⟩ := hp2
    have hq2 := hq2.ko hosb (by omega)
    have ho := ho.tr (hosb.mo (by omega) (by omega))
    refine lv_aload_n hx hb dX0_begin_19 rfl (lv_at hl 0 rfl) ?_
    refine lv_iload_n hx hb dX0_begin_20 rfl (lv_at hl 3 rfl) ?_
    refine x_put (T := TX0) (N := 5) (ty := .boolean) hx hb hts uX0 tyX0 tyX0_ok nmX0 hown hK hP hD hS (i := i) (by omega) hk.1 rfl 2 (by decide) u_fl_RX0_38 rfl (by decide +kernel) (by first | exact xb_nar _ | decide +kernel) (by first | exact xb_fit _ | decide +kernel) (by show 2 < 5; decide) dX0_begin_21 (fun H locs hP hS => ?_)
    have hP : va_P D vwCl (xw n ad (va_up en2 i (.inr (0, [.ref (ad (i + 1)), .ref (ad (i + 3)), .int (xb G1), .int (xI zz), .int (xI pl)])))) H := hP
    obtain ⟨en3, he3⟩ : ∃ z, z = va_up en2 i (.inr (0, [.ref (ad (i + 1)), .ref (ad (i + 3)), .int (xb G1), .int (xI zz), .int (xI pl)])) := ⟨_, rfl⟩
    rw [← he3] at hP
    have ho3 : en3 i = (.inr (0, [.ref (ad (i + 1)), .ref (ad (i + 3)), .int (xb G1), .int (xI zz), .int (xI pl)])) := by rw [he3, va_up_self]
    have hk4 := (show en3 j2 = en2 j2 from by rw [he3, va_up_ne _ _ (by omega)]).trans hq2.1
    have hk5 := (show en3 (i + 1) = en2 (i + 1) from by rw [he3, va_up_ne _ _ (by omega)]).trans hk.2.1.1
    have hoe : xO i (i + 1) en2 en3 := by rw [he3]; exact xO.rf.up (Nat.le_refl _) (Nat.lt_succ_self _)
    have hq2 := hq2.ko hoe (by omega)
    have hk : XK cA ad en3 i k h (sp_sep h2 k2) G1 zz pl := by rw [he3]; exact hk.st _ _ _
    have ho := ho.tr (hoe.mo (by omega) (by omega))
    refine lv_aload_n hx hb dX0_begin_24 rfl (lv_at hl 0 rfl) ?_
    refine x_iconst hx hb dX0_begin_25 ?_
    refine x_put (T := TX0) (N := 5) (ty := .int) hx hb hts uX0 tyX0 tyX0_ok nmX0 hown hK hP hD hS (i := i) (by omega) hk.1 rfl 4 (by decide) u_fl_RX0_41 rfl (by decide +kernel) rfl rfl (by show 4 < 5; decide) dX0_begin_26 (fun H locs hP hS => ?_)
    have hP : va_P D vwCl (xw n ad (va_up en3 i (.inr (0, [.ref (ad (i + 1)), .ref (ad (i + 3)), .int (xb G1), .int (xI zz), .int (xI 0)])))) H := hP
    obtain ⟨en6, he6⟩ : ∃ z, z = va_up en3 i (.inr (0, [.ref (ad (i + 1)), .ref (ad (i + 3)), .int (xb G1), .int (xI zz), .int (xI 0)])) := ⟨_, rfl⟩
    rw [← he6] at hP
    have ho6 : en6 i = (.inr (0, [.ref (ad (i + 1)), .ref (ad (i + 3)), .int (xb G1), .int (xI zz), .int (xI 0)])) := by rw [he6, va_up_self]
    have hk7 := (show en6 j2 = en3 j2 from by rw [he6, va_up_ne _ _ (by omega)]).trans hq2.1
    have hk8 := (show en6 (i + 1) = en3 (i + 1) from by rw [he6, va_up_ne _ _ (by omega)]).trans hk.2.1.1
    have hoe : xO i (i + 1) en3 en6 := by rw [he6]; exact xO.rf.up (Nat.le_refl _) (Nat.lt_succ_self _)
    have hq2 := hq2.ko hoe (by omega)
    have hk : XK cA ad en6 i k h (sp_sep h2 k2) G1 zz 0 := by rw [he6]; exact hk.st _ _ _
    have ho := ho.tr (hoe.mo (by omega) (by omega))
    refine lv_aload_n hx hb dX0_begin_29 rfl (lv_at hl 0 rfl) ?_
    refine x_iconst hx hb dX0_begin_30 ?_
    refine x_put (T := TX0) (N := 5) (ty := .boolean) hx hb hts uX0 tyX0 tyX0_ok nmX0 hown hK hP hD hS (i := i) (by omega) hk.1 rfl 3 (by decide) u_fl_RX0_22 rfl (by decide +kernel) (by first | exact xb_nar _ | decide +kernel) (by first | exact xb_fit _ | decide +kernel) (by show 3 < 5; decide) dX0_begin_31 (fun H locs hP hS => ?_)
    have hP : va_P D vwCl (xw n ad (va_up en6 i (.inr (0, [.ref (ad (i + 1)), .ref (ad (i + 3)), .int (xb G1), .int (xI 0), .int (xI 0)])))) H := hP
    obtain ⟨en9, he9⟩ : ∃ z, z = va_up en6 i (.inr (0, [.ref (ad (i + 1)), .ref (ad (i + 3)), .int (xb G1), .int (xI 0), .int (xI 0)])) := ⟨_, rfl⟩
    rw [← he9] at hP
    have ho9 : en9 i = (.inr (0, [.ref (ad (i + 1)), .ref (ad (i + 3)), .int (xb G1), .int (xI 0), .int (xI 0)])) := by rw [he9, va_up_self]
    have hk10 := (show en9 j2 = en6 j2 from by rw [he9, va_up_ne _ _ (by omega)]).trans hq2.1
    have hk11 := (show en9 (i + 1) = en6 (i + 1) from by rw [he9, va_up_ne _ _ (by omega)]).trans hk.2.1.1
    have hoe : xO i (i + 1) en6 en9 := by rw [he9]; exact xO.rf.up (Nat.le_refl _) (Nat.lt_succ_self _)
    have hq2 := hq2.ko hoe (by omega)
    have hk : XK cA ad en9 i k h (sp_sep h2 k2) G1 0 0 := by rw [he9]; exact hk.st _ _ _
    have ho := ho.tr (hoe.mo (by omega) (by omega))
    exact xe_v hx hb hrt hlocks hP hS (⟨hk, ho⟩) dX0_begin_34
  · exact absurd (by omega) hsp

set_option maxRecDepth 20000 in
theorem c_X0_giveToken (l : Launch) (D : va_G) (cA : Nat → ClassId) (n : Nat) (ad : Nat → Nat) (en : Nat → va_E) (sz : Nat) {i m : Nat} {f : Nat → Int} {S : Int → Prop} {G : Prop} {zz pl : Int} (hi : i + 3 < n) (hk : XK cA ad en i m f S G zz pl) (hpl : 0 ≤ pl ∧ pl ≤ (m : Int)) {j : Nat} {o : Option xRow} (hj : j + 2 < n) (hT : XT cA ad en j o) (hij : j + 2 < i ∨ i + 3 < j) : Met l yX0_giveToken (Cond.code yX0_giveToken cX0_giveToken 3 (some .int) :: xU) (xrm 4 86) (va_Pc [.ref (ad i), .ref (ad j)] (xM D cA n ad en sz)) (va_Qi (fun r u => ((m : Int) ≤ (sp_ts G S f (m : Int) pl) ∧ r = xI (-1006) ∧ XK cA ad u i m f S G 1 pl ∧ xO i (i + 4) en u) ∨ ((sp_ts G S f (m : Int) pl) < (m : Int) ∧ r = xI ((sp_te S f (m : Int) (sp_ts G S f (m : Int) pl)) - (sp_ts G S f (m : Int) pl)) ∧ ∃ v : Nat → va_E, (XK cA ad v i m f S G zz (sp_te S f (m : Int) (sp_ts G S f (m : Int) pl)) ∧ xO i (i + 4) en v) ∧ XT cA ad u j (some (((sp_te S f (m : Int) (sp_ts G S f (m : Int) pl)) - (sp_ts G S f (m : Int) pl)).toNat, fun t => f (Int.toNat (sp_ts G S f (m : Int) pl) + t))) ∧ xO j (j + 3) v u)) (xE D n ad) (xA n ad sz)) 0 0 (xA n ad sz) := by
  refine xmet (by decide) (Nat.le_of_ble_eq_true rfl) (fun p e s mm args below meth c ls hx hb hrt hml hown hts hlocks hname hB hl => ?_)
  obtain ⟨⟨hP, hK, hN⟩, hsz, hDt⟩ := hB
  have hD : xD (xA n ad sz) n ad := xD_self hDt sz
  have hA : ∀ q : Nat, s.heap.size ≤ q → xA n ad sz q := fun q h => Or.inr (by rw [← hsz]; exact h)
  have hS : va_S (xA n ad sz) s.heap s.heap [] := va_S.rf
  have hown : s.vm.findClass RX0 = some mm.cls := hown
  have hl : lv_has ls 3 [(0, .ref (ad i)), (1, .ref (ad j))] := hl
  have hm := hk.2.1.2.2.1
  obtain ⟨zm, m2, f2, hT1, hr2⟩ := hT.any
  refine lv_aload_n hx hb dX0_giveToken_0 rfl (lv_at hl 0 rfl) ?_
  refine lv_aload_n hx hb dX0_giveToken_1 rfl (lv_at hl 0 rfl) ?_
  refine x_get (T := TX0) (N := 5) hx hb hts uX0 hown hK hP (i := i) (by omega) hk.1 rfl 4 (by decide) u_fl_RX0_41 rfl dX0_giveToken_2 ?_
  have hts5 := sp_ts_b (G := G) (S := S) (f := f) (m := (m : Int)) (a := pl) (by omega)
  refine xv_i (i := i) (As := [.int (xI pl)]) (rest := []) ⟨hx, hb, hml, hown, hts⟩ hl.1 (c_X0_tokenStart l D cA n ad en (by omega) hk pl (by omega)) k_X0_tokenStart u_ml_RX0_48 hK hN hP (by omega) hk.1 rfl rfl rfl rfl (Nat.le_of_ble_eq_true rfl) ⟨Nat.le_of_ble_eq_true rfl, Nat.le_of_ble_eq_true rfl⟩ ⟨Nat.le_of_ble_eq_true rfl, Nat.le_of_ble_eq_true rfl⟩ dX0_giveToken_5 ?_
  refine lv_istore_n (lv' := [(2, .int (xI (sp_ts G S f (m : Int) pl))), (0, .ref (ad i)), (1, .ref (ad j))]) hx hb dX0_giveToken_8 rfl hl (by decide) rfl (fun ls hl => ?_)
  refine lv_iload_n hx hb dX0_giveToken_9 rfl (lv_at hl 0 rfl) ?_
  refine lv_aload_n hx hb dX0_giveToken_10 rfl (lv_at hl 1 rfl) ?_
  refine x_get (T := TX0) (N := 5) hx hb hts uX0 hown hK hP (i := i) (by omega) hk.1 rfl 0 (by decide) u_fl_RX0_12 rfl dX0_giveToken_11 ?_
  refine x_getn (T := TX2) (N := 2) hx hb hts uX2 hown hN hK hP (i := i + 1) (by omega) hk.2.1.1 rfl 1 (by decide) (by simp only [xNest, List.mem_cons]; exact Or.inl rfl) rfl dX0_giveToken_14 ?_
  refine x_icmp_lt (tgt := 29) hx hb dX0_giveToken_17 (by decide) (by omega) (fun c_17 => ?_) (fun c_17 => ?_)
  · refine lv_aload_n hx hb dX0_giveToken_29 rfl (lv_at hl 1 rfl) ?_
    refine lv_aload_n hx hb dX0_giveToken_30 rfl (lv_at hl 1 rfl) ?_
    refine lv_iload_n hx hb dX0_giveToken_31 rfl (lv_at hl 0 rfl) ?_
    have hte32 := sp_te_b (S := S) (f := f) (m := (m : Int)) (a := (sp_ts G S f (m : Int) pl)) (by omega)
    refine xv_i (i := i) (As := [.int (xI (sp_ts G S f (m : Int) pl))]) (rest := [.ref (ad i)]) ⟨hx, hb, hml, hown, hts⟩ hl.1 (c_X0_tokenEnd l D cA n ad en (by omega) hk (sp_ts G S f (m : Int) pl) (by omega)) k_X0_tokenEnd u_ml_RX0_51 hK hN hP (by omega) hk.1 rfl rfl rfl rfl (Nat.le_of_ble_eq_true rfl) ⟨Nat.le_of_ble_eq_true rfl, Nat.le_of_ble_eq_true rfl⟩ ⟨Nat.le_of_ble_eq_true rfl, Nat.le_of_ble_eq_true rfl⟩ dX0_giveToken_32 ?_
    refine x_put (T := TX0) (N := 5) (ty := .int) hx hb hts uX0 tyX0 tyX0_ok nmX0 hown hK hP hD hS (i := i) (by omega) hk.1 rfl 4 (by decide) u_fl_RX0_41 rfl (by decide +kernel) rfl rfl (by show 4 < 5; decide) dX0_giveToken_35 (fun H locs hP hS => ?_)
    have hP : va_P D vwCl (xw n ad (va_up en i (.inr (0, [.ref (ad (i + 1)), .ref (ad (i + 3)), .int (xb G), .int (xI zz), .int (xI (sp_te S f (m : Int) (sp_ts G S f (m : Int) pl)))])))) H := hP
    obtain ⟨en1, he1⟩ : ∃ z, z = va_up en i (.inr (0, [.ref (ad (i + 1)), .ref (ad (i + 3)), .int (xb G), .int (xI zz), .int (xI (sp_te S f (m : Int) (sp_ts G S f (m : Int) pl)))])) := ⟨_, rfl⟩
    rw [← he1] at hP
    have ho1 : en1 i = (.inr (0, [.ref (ad (i + 1)), .ref (ad (i + 3)), .int (xb G), .int (xI zz), .int (xI (sp_te S f (m : Int) (sp_ts G S f (m : Int) pl)))])) := by rw [he1, va_up_self]
    have hk2 := (show en1 (i + 1) = en (i + 1) from by rw [he1, va_up_ne _ _ (by omega)]).trans hk.2.1.1
    have hk3 := (show en1 j = en j from by rw [he1, va_up_ne _ _ (by omega)]).trans hT1
    have hoe : xO i (i + 1) en en1 := by rw [he1]; exact xO.rf.up (Nat.le_refl _) (Nat.lt_succ_self _)
    have hk : XK cA ad en1 i m f S G zz (sp_te S f (m : Int) (sp_ts G S f (m : Int) pl)) := by rw [he1]; exact hk.st _ _ _
    have hT := hT.ko hoe (by omega)
    have ho := hoe
    refine lv_aload_n hx hb dX0_giveToken_38 rfl (lv_at hl 2 rfl) ?_
    refine lv_aload_n hx hb dX0_giveToken_39 rfl (lv_at hl 1 rfl) ?_
    refine x_get (T := TX0) (N := 5) hx hb hts uX0 hown hK hP (i := i) (by omega) hk.1 rfl 0 (by decide) u_fl_RX0_12 rfl dX0_giveToken_40 ?_
    refine lv_iload_n hx hb dX0_giveToken_43 rfl (lv_at hl 0 rfl) ?_
    refine lv_aload_n hx hb dX0_giveToken_44 rfl (lv_at hl 1 rfl) ?_
    refine x_get (T := TX0) (N := 5) hx hb hts uX0 hown hK hP (i := i) (by omega) hk.1 rfl 4 (by decide) u_fl_RX0_41 rfl dX0_giveToken_45 ?_
    refine xm_i (i := j) (As := [.ref (ad (i + 1)), .int (xI (sp_ts G S f (m : Int) pl)), .int (xI (sp_te S f (m : Int) (sp_ts G S f (m : Int) pl)))]) (rest := []) ⟨hx, hb, hml, hown, hts⟩ hl.1 (c_X3_become l D cA n ad en1 _ (by omega) hT (by omega) hk.2.1 (by omega) (sp_ts G S f (m : Int) pl) (sp_te S f (m : Int) (sp_ts G S f (m : Int) pl)) (by omega) (by omega)) k_X3_become u_ml_RX0_54 hK hN hP (by omega) hk3 rfl rfl rfl rfl (Nat.le_of_ble_eq_true rfl) ⟨Nat.le_of_ble_eq_true rfl, Nat.le_of_ble_eq_true rfl⟩ ⟨Nat.le_of_ble_eq_true rfl, Nat.le_of_ble_eq_true rfl⟩ dX0_giveToken_48 hD hS hA (fun r4 en4 H locs hp4 hP hS => ?_)
    rcases hp4 with ⟨hsp, hrv, hx1, hoc⟩ | ⟨hsp, hrv, hu⟩
    · subst hrv
      exact xe_i hx hb hrt hlocks hP hS (Or.inr ⟨by omega, rfl, en1, ⟨hk, ho.mo (by omega) (by omega)⟩, hx1, hoc⟩) dX0_giveToken_51
    · exact absurd (by omega) hsp
  · refine lv_aload_n hx hb dX0_giveToken_20 rfl (lv_at hl 1 rfl) ?_
    refine x_iconst hx hb dX0_giveToken_21 ?_
    refine x_put (T := TX0) (N := 5) (ty := .boolean) hx hb hts uX0 tyX0 tyX0_ok nmX0 hown hK hP hD hS (i := i) (by omega) hk.1 rfl 3 (by decide) u_fl_RX0_22 rfl (by decide +kernel) (by first | exact xb_nar _ | decide +kernel) (by first | exact xb_fit _ | decide +kernel) (by show 3 < 5; decide) dX0_giveToken_22 (fun H locs hP hS => ?_)
    have hP : va_P D vwCl (xw n ad (va_up en i (.inr (0, [.ref (ad (i + 1)), .ref (ad (i + 3)), .int (xb G), .int (xI 1), .int (xI pl)])))) H := hP
    obtain ⟨en5, he5⟩ : ∃ z, z = va_up en i (.inr (0, [.ref (ad (i + 1)), .ref (ad (i + 3)), .int (xb G), .int (xI 1), .int (xI pl)])) := ⟨_, rfl⟩
    rw [← he5] at hP
    have ho5 : en5 i = (.inr (0, [.ref (ad (i + 1)), .ref (ad (i + 3)), .int (xb G), .int (xI 1), .int (xI pl)])) := by rw [he5, va_up_self]
    have hk6 := (show en5 (i + 1) = en (i + 1) from by rw [he5, va_up_ne _ _ (by omega)]).trans hk.2.1.1
    have hk7 := (show en5 j = en j from by rw [he5, va_up_ne _ _ (by omega)]).trans hT1
    have hoe : xO i (i + 1) en en5 := by rw [he5]; exact xO.rf.up (Nat.le_refl _) (Nat.lt_succ_self _)
    have hk : XK cA ad en5 i m f S G 1 pl := by rw [he5]; exact hk.st _ _ _
    have hT := hT.ko hoe (by omega)
    have ho := hoe
    refine x_sipush hx hb dX0_giveToken_25 (by decide +kernel) ?_
    exact xe_i hx hb hrt hlocks hP hS (Or.inl ⟨by omega, rfl, hk, ho.mo (by omega) (by omega)⟩) dX0_giveToken_28
end
section
/-! the object's own helpers -/
section CWP
variable {cA : Nat → ClassId} {ad : Nat → Nat} {en : Nat → va_E} {S : xSt}
theorem CW.rb (h : CW cA ad en S) {b : Nat} (hb : b < 4) : XR cA ad en (13 + 2 * b) (S.1 b).1 (S.1 b).2 := h.2.2.2.2.2.2.2.1 b hb
theorem CW.rt (h : CW cA ad en S) {t : Nat} (ht : t < 8) : XT cA ad en (21 + 3 * t) (S.2.1 t) := h.2.2.2.2.2.2.2.2.1 t ht
theorem CW.rc (h : CW cA ad en S) {c : Nat} (hc : c < 2) : XC cA ad en (45 + 4 * c) (S.2.2.2 c) := h.2.2.2.2.2.2.2.2.2 c hc
theorem CW.rp (h : CW cA ad en S) : XP cA ad en S.2.2.1 := h.2.2.2.2.1
theorem CW.r4 (h : CW cA ad en S) : XR cA ad en 9 4 sp_four := h.2.2.2.2.2.1
theorem CW.rs (h : CW cA ad en S) : ∃ (m : Nat) (f : Nat → Int), XR cA ad en 11 m f := h.2.2.2.2.2.2.1
end CWP
/-! numbers as signs -/
def sp_q (z : Int) : Nat → Int
  | 0 => z
  | k + 1 => (sp_q z k).tdiv 10
def sp_dg (z : Int) (k : Nat) : Int := 48 + (if 0 ≤ (sp_q z k).tmod 10 then (sp_q z k).tmod 10 else -((sp_q z k).tmod 10))
theorem sp_tm (a : Int) : -9 ≤ a.tmod 10 ∧ a.tmod 10 ≤ 9 := by
  have h1 := Int.tmod_lt_of_pos a (show (0 : Int) < 10 by decide)
  have h2 := Int.lt_tmod_of_pos a (show (0 : Int) < 10 by decide)
  omega
theorem sp_dg_b (z : Int) (k : Nat) : 48 ≤ sp_dg z k ∧ sp_dg z k ≤ 57 := by
  have h := sp_tm (sp_q z k)
  unfold sp_dg
  split <;> omega
def sp_ln (z : Int) : Nat → Nat → Nat
  | 0, i => i
  | k + 1, i => if i = 0 ∨ ¬ sp_q z i = 0 then sp_ln z k (i + 1) else i
def sp_len (z : Int) : Nat := sp_ln z 19 0
theorem sp_ln_t {z : Int} {i : Nat} (h : i < 19) (hc : i = 0 ∨ ¬ sp_q z i = 0) : sp_ln z (19 - i) i = sp_ln z (19 - (i + 1)) (i + 1) := by
  rw [show 19 - i = 19 - (i + 1) + 1 by omega, sp_ln, if_pos hc]
theorem sp_ln_f {z : Int} {i : Nat} (h : i < 19) (hc : ¬ (i = 0 ∨ ¬ sp_q z i = 0)) : sp_ln z (19 - i) i = i := by
  rw [show 19 - i = 19 - (i + 1) + 1 by omega, sp_ln, if_neg hc]
theorem sp_ln_e {z : Int} {i : Nat} (h : 19 ≤ i) : sp_ln z (19 - i) i = i := by
  rw [show 19 - i = 0 by omega, sp_ln]
def sp_nn (z : Int) : Nat := sp_len z + (if z < 0 then 1 else 0)
def sp_nf (z : Int) : Nat → Int := fun k => if z < 0 ∧ k = 0 then 45 else sp_dg z (sp_nn z - 1 - k)
theorem sp_nn_n {z : Int} (h : z < 0) : sp_nn z = sp_len z + 1 := by unfold sp_nn; rw [if_pos h]
theorem sp_nn_p {z : Int} (h : ¬ z < 0) : sp_nn z = sp_len z := by unfold sp_nn; rw [if_neg h]; rfl
theorem sp_q_r {z : Int} (h : -9223372036854775808 ≤ z ∧ z ≤ 9223372036854775807) : ∀ k : Nat, -9223372036854775808 ≤ sp_q z k ∧ sp_q z k ≤ 9223372036854775807
  | 0 => h
  | k + 1 => by
    have ih := sp_q_r h k
    have e : (sp_q z (k + 1)).natAbs = (sp_q z k).natAbs / 10 := by rw [sp_q, Int.natAbs_tdiv]; rfl
    omega
theorem sp_q_n (z : Int) : ∀ k : Nat, (sp_q z k).natAbs = z.natAbs / 10 ^ k
  | 0 => by rw [sp_q, Nat.pow_zero, Nat.div_one]
  | k + 1 => by
    have e : (sp_q z (k + 1)).natAbs = (sp_q z k).natAbs / 10 := by rw [sp_q, Int.natAbs_tdiv]; rfl
    rw [e, sp_q_n z k, Nat.div_div_eq_div_mul, Nat.pow_succ]
theorem sp_q_19 {z : Int} (h : -9223372036854775808 ≤ z ∧ z ≤ 9223372036854775807) : sp_q z 19 = 0 := by
  have e := sp_q_n z 19
  rw [Nat.div_eq_of_lt (by omega)] at e
  omega
section XRD
variable {p : Program} {l : Launch} {e : Env} {R : Room} {s : State} {m : MethodId} {args : Array Value} {below : List Frame} {meth : Method} {c : Code} {H : Heap} {locs : List Loc} {cells slots : Nat} {Q : State → Prop}
variable {cc : ByteArray} {pc : Nat} {ls : Array Slot} {rest : List Value}
theorem xL_div {a : Int} (h : -9223372036854775808 ≤ a ∧ a ≤ 9223372036854775807) : xL a / xL 10 = xL (a.tdiv 10) := (Int64.ofInt_tdiv (a := a) (b := 10) (by show (-9223372036854775808 : Int) ≤ a; exact h.1) (by show a ≤ (9223372036854775807 : Int); exact h.2) (by decide) (by decide)).symm
theorem xL_rem {a : Int} (h : -9223372036854775808 ≤ a ∧ a ≤ 9223372036854775807) : xL a - xL a / xL 10 * xL 10 = xL (a.tmod 10) := by
  rw [xL_div h, xL_mul]
  have e2 : xL a - xL (a.tdiv 10 * 10) = xL (a - a.tdiv 10 * 10) := (Int64.ofInt_sub a _).symm
  rw [e2]
  rw [Int.tmod_def, Int.mul_comm]
theorem xL_10 : ¬ xL 10 = 0 := by decide +kernel
theorem x_ldiv (hx : p.tables.exec = Jvm.exec) (hb : c.code = cc) {a : Int} (hdg : decode cc pc = .ok (.ldiv, 1)) (ha : -9223372036854775808 ≤ a ∧ a ≤ 9223372036854775807) (kk : W p l e R s m args below meth c H locs cells slots Q (F0 m (pc + 1) ls (.long (xL (a.tdiv 10)) :: rest))) : W p l e R s m args below meth c H locs cells slots Q (F0 m pc ls (.long (xL 10) :: .long (xL a) :: rest)) := lv_ldiv hx hb hdg xL_10 (by rw [xL_div ha]; exact kk)
theorem x_lrem (hx : p.tables.exec = Jvm.exec) (hb : c.code = cc) {a : Int} (hdg : decode cc pc = .ok (.lrem, 1)) (ha : -9223372036854775808 ≤ a ∧ a ≤ 9223372036854775807) (kk : W p l e R s m args below meth c H locs cells slots Q (F0 m (pc + 1) ls (.long (xL (a.tmod 10)) :: rest))) : W p l e R s m args below meth c H locs cells slots Q (F0 m pc ls (.long (xL 10) :: .long (xL a) :: rest)) := lv_lrem hx hb hdg xL_10 (by rw [xL_rem ha]; exact kk)
theorem x_l2i (hx : p.tables.exec = Jvm.exec) (hb : c.code = cc) {a : Int} (hdg : decode cc pc = .ok (.l2i, 1)) (kk : W p l e R s m args below meth c H locs cells slots Q (F0 m (pc + 1) ls (.int (xI a) :: rest))) : W p l e R s m args below meth c H locs cells slots Q (F0 m pc ls (.long (xL a) :: rest)) := lv_l2i (v := xI a) hx hb hdg (xL_i a) kk
end XRD
/-! letters -/
def sp_by (w : Int64) (k : Nat) : Int := (((w.toBitVec.toNat / 2 ^ (8 * k)) % 256 : Nat) : Int)
theorem sp_by_b (w : Int64) (k : Nat) : 0 ≤ sp_by w k ∧ sp_by w k ≤ 255 := by unfold sp_by; omega
theorem sp_by_u (w : Int64) {k : Nat} (hk : k < 8) : (w.toUInt64 >>> ((xI (8 * (k : Int))).toInt64.toUInt64 &&& Int64.toUInt64 63)).toInt64.toInt32 &&& xI 255 = xI (sp_by w k) := by
  have e1 : ((xI (8 * (k : Int))).toInt64.toUInt64 &&& Int64.toUInt64 63).toNat % 64 = 8 * k := by
    rcases (show k = 0 ∨ k = 1 ∨ k = 2 ∨ k = 3 ∨ k = 4 ∨ k = 5 ∨ k = 6 ∨ k = 7 by omega) with rfl | rfl | rfl | rfl | rfl | rfl | rfl | rfl <;> decide +kernel
  have e2 : (w.toUInt64 >>> ((xI (8 * (k : Int))).toInt64.toUInt64 &&& Int64.toUInt64 63)).toInt64.toBitVec.toNat = w.toBitVec.toNat / 2 ^ (8 * k) := by
    show (w.toUInt64 >>> ((xI (8 * (k : Int))).toInt64.toUInt64 &&& Int64.toUInt64 63)).toNat = _
    rw [UInt64.toNat_shiftRight, e1, Nat.shiftRight_eq_div_pow]
    rfl
  generalize (w.toUInt64 >>> ((xI (8 * (k : Int))).toInt64.toUInt64 &&& Int64.toUInt64 63)).toInt64 = y at e2 ⊢
  have e3 : y.toInt32 &&& xI 255 = nI (y.toInt32.toBitVec.toNat % 2 ^ 8) := pk_and _ 8 (by decide +kernel)
  rw [e3]
  have e4 : y.toInt32.toBitVec.toNat % 2 ^ 8 = (w.toBitVec.toNat / 2 ^ (8 * k)) % 256 := by
    have e5 : y.toInt32.toBitVec.toNat = y.toBitVec.toNat % 2 ^ 32 := by
      show (BitVec.signExtend 32 y.toBitVec).toNat = _
      rw [BitVec.signExtend_eq_setWidth_of_le _ (by decide), BitVec.toNat_setWidth]
    rw [e5, e2]
    omega
  rw [e4]
  exact xI_nat _
/-! sums of what there is -/
def sp_mix (h : Int64) (z : Int) : Int64 := xL 31 * h + xL z
def sp_hs (f : Nat → Int) (h : Int64) (a : Nat) : Nat → Int64
  | 0 => h
  | k + 1 => sp_mix (sp_hs f h a k) (f (a + k))

set_option maxRecDepth 20000 in
theorem c_X4_builderOf_in (l : Launch) (D : va_G) (cA : Nat → ClassId) (n : Nat) (ad : Nat → Nat) (en : Nat → va_E) (hn : 53 ≤ n) {S : xSt} (hC : CW cA ad en S) (b : Nat) (hb4 : b < 4) : Met l yX4_builderOf (Cond.code yX4_builderOf cX4_builderOf 2 (some (.object "RowsOfSigns$Row")) :: xU) (xrm 0 0) (va_Pc [.ref (ad 0), .int (xI (b : Int))] (xB D cA n ad en)) (va_Sq (fun z => z = some (ad (13 + 2 * b)))) 0 0 (fun _ => False) := by
  refine xmet (by decide) (Nat.le_of_ble_eq_true rfl) (fun p e s mm args below meth c ls hx hb hrt hml hown hts hlocks hname hB hl => ?_)
  obtain ⟨hP, hK, hN⟩ := hB
  have hl : lv_has ls 2 [(0, .ref (ad 0)), (1, .int (xI (b : Int)))] := hl
  obtain ⟨g, hg1, hg2⟩ := hC.2.1
  refine lv_iload_n hx hb dX4_builderOf_0 rfl (lv_at hl 1 rfl) ?_
  refine x_if_lt (tgt := 22) hx hb dX4_builderOf_1 (by decide) (by omega) (fun c_1 => absurd c_1 (by omega)) (fun c_1 => ?_)
  refine lv_iload_n hx hb dX4_builderOf_4 rfl (lv_at hl 1 rfl) ?_
  refine lv_aload_n hx hb dX4_builderOf_5 rfl (lv_at hl 0 rfl) ?_
  refine x_get (T := TX4) (N := 6) hx hb hts uX4 hown hK hP (i := 0) (by omega) hC.1 rfl 0 (by decide) u_fl_RX4_11 rfl dX4_builderOf_6 ?_
  refine x_alen hx hb hK hP (i := 1) (by omega) 2 hg1 rfl dX4_builderOf_9 ?_
  refine x_icmp_ge (tgt := 22) hx hb dX4_builderOf_10 (by decide) (by omega) (fun c_10 => absurd c_10 (by omega)) (fun c_10 => ?_)
  refine lv_aload_n hx hb dX4_builderOf_13 rfl (lv_at hl 0 rfl) ?_
  refine x_get (T := TX4) (N := 6) hx hb hts uX4 hown hK hP (i := 0) (by omega) hC.1 rfl 0 (by decide) u_fl_RX4_11 rfl dX4_builderOf_14 ?_
  refine lv_iload_n hx hb dX4_builderOf_17 rfl (lv_at hl 1 rfl) ?_
  refine x_qld hx hb hK hP (i := 1) (by omega) 2 hg1 rfl (a := ad (13 + 2 * b)) (by omega) (by rw [show Int.toNat (b : Int) = b by omega]; exact hg2 b hb4) dX4_builderOf_18 ?_
  refine lv_goto (tgt := 23) hx hb dX4_builderOf_19 (by decide) ?_
  exact xr_q hx hb hrt hlocks (rfl) dX4_builderOf_23

set_option maxRecDepth 20000 in
theorem c_X4_builderOf_out (l : Launch) (D : va_G) (cA : Nat → ClassId) (n : Nat) (ad : Nat → Nat) (en : Nat → va_E) (hn : 53 ≤ n) {S : xSt} (hC : CW cA ad en S) (z1 : Int) (hz1 : -2147483648 ≤ z1 ∧ z1 ≤ 2147483647) (h1 : ¬ (0 ≤ z1 ∧ z1 < 4)) : Met l yX4_builderOf (Cond.code yX4_builderOf cX4_builderOf 2 (some (.object "RowsOfSigns$Row")) :: xU) (xrm 0 0) (va_Pc [.ref (ad 0), .int (xI z1)] (xB D cA n ad en)) (va_Sq (fun z => z = none)) 0 0 (fun _ => False) := by
  refine xmet (by decide) (Nat.le_of_ble_eq_true rfl) (fun p e s mm args below meth c ls hx hb hrt hml hown hts hlocks hname hB hl => ?_)
  obtain ⟨hP, hK, hN⟩ := hB
  have hl : lv_has ls 2 [(0, .ref (ad 0)), (1, .int (xI z1))] := hl
  obtain ⟨g, hg1, hg2⟩ := hC.2.1
  refine lv_iload_n hx hb dX4_builderOf_0 rfl (lv_at hl 1 rfl) ?_
  refine x_if_lt (tgt := 22) hx hb dX4_builderOf_1 (by decide) (by omega) (fun c_1 => ?_) (fun c_1 => ?_)
  · refine lv_null hx hb dX4_builderOf_22 ?_
    exact xr_q hx hb hrt hlocks (rfl) dX4_builderOf_23
  · refine lv_iload_n hx hb dX4_builderOf_4 rfl (lv_at hl 1 rfl) ?_
    refine lv_aload_n hx hb dX4_builderOf_5 rfl (lv_at hl 0 rfl) ?_
    refine x_get (T := TX4) (N := 6) hx hb hts uX4 hown hK hP (i := 0) (by omega) hC.1 rfl 0 (by decide) u_fl_RX4_11 rfl dX4_builderOf_6 ?_
    refine x_alen hx hb hK hP (i := 1) (by omega) 2 hg1 rfl dX4_builderOf_9 ?_
    refine x_icmp_ge (tgt := 22) hx hb dX4_builderOf_10 (by decide) (by omega) (fun c_10 => ?_) (fun c_10 => absurd c_10 (by omega))
    refine lv_null hx hb dX4_builderOf_22 ?_
    exact xr_q hx hb hrt hlocks (rfl) dX4_builderOf_23

set_option maxRecDepth 20000 in
theorem c_X4_textOf_in (l : Launch) (D : va_G) (cA : Nat → ClassId) (n : Nat) (ad : Nat → Nat) (en : Nat → va_E) (hn : 53 ≤ n) {S : xSt} (hC : CW cA ad en S) (b : Nat) (hb4 : b < 8) : Met l yX4_textOf (Cond.code yX4_textOf cX4_textOf 2 (some (.object "RowsOfSigns$Text")) :: xU) (xrm 0 0) (va_Pc [.ref (ad 0), .int (xI (b : Int))] (xB D cA n ad en)) (va_Sq (fun z => z = some (ad (21 + 3 * b)))) 0 0 (fun _ => False) := by
  refine xmet (by decide) (Nat.le_of_ble_eq_true rfl) (fun p e s mm args below meth c ls hx hb hrt hml hown hts hlocks hname hB hl => ?_)
  obtain ⟨hP, hK, hN⟩ := hB
  have hl : lv_has ls 2 [(0, .ref (ad 0)), (1, .int (xI (b : Int)))] := hl
  obtain ⟨g, hg1, hg2⟩ := hC.2.2.1
  refine lv_iload_n hx hb dX4_textOf_0 rfl (lv_at hl 1 rfl) ?_
  refine x_if_lt (tgt := 22) hx hb dX4_textOf_1 (by decide) (by omega) (fun c_1 => absurd c_1 (by omega)) (fun c_1 => ?_)
  refine lv_iload_n hx hb dX4_textOf_4 rfl (lv_at hl 1 rfl) ?_
  refine lv_aload_n hx hb dX4_textOf_5 rfl (lv_at hl 0 rfl) ?_
  refine x_get (T := TX4) (N := 6) hx hb hts uX4 hown hK hP (i := 0) (by omega) hC.1 rfl 1 (by decide) u_fl_RX4_17 rfl dX4_textOf_6 ?_
  refine x_alen hx hb hK hP (i := 2) (by omega) 3 hg1 rfl dX4_textOf_9 ?_
  refine x_icmp_ge (tgt := 22) hx hb dX4_textOf_10 (by decide) (by omega) (fun c_10 => absurd c_10 (by omega)) (fun c_10 => ?_)
  refine lv_aload_n hx hb dX4_textOf_13 rfl (lv_at hl 0 rfl) ?_
  refine x_get (T := TX4) (N := 6) hx hb hts uX4 hown hK hP (i := 0) (by omega) hC.1 rfl 1 (by decide) u_fl_RX4_17 rfl dX4_textOf_14 ?_
  refine lv_iload_n hx hb dX4_textOf_17 rfl (lv_at hl 1 rfl) ?_
  refine x_qld hx hb hK hP (i := 2) (by omega) 3 hg1 rfl (a := ad (21 + 3 * b)) (by omega) (by rw [show Int.toNat (b : Int) = b by omega]; exact hg2 b hb4) dX4_textOf_18 ?_
  refine lv_goto (tgt := 23) hx hb dX4_textOf_19 (by decide) ?_
  exact xr_q hx hb hrt hlocks (rfl) dX4_textOf_23

set_option maxRecDepth 20000 in
theorem c_X4_textOf_out (l : Launch) (D : va_G) (cA : Nat → ClassId) (n : Nat) (ad : Nat → Nat) (en : Nat → va_E) (hn : 53 ≤ n) {S : xSt} (hC : CW cA ad en S) (z1 : Int) (hz1 : -2147483648 ≤ z1 ∧ z1 ≤ 2147483647) (h1 : ¬ (0 ≤ z1 ∧ z1 < 8)) : Met l yX4_textOf (Cond.code yX4_textOf cX4_textOf 2 (some (.object "RowsOfSigns$Text")) :: xU) (xrm 0 0) (va_Pc [.ref (ad 0), .int (xI z1)] (xB D cA n ad en)) (va_Sq (fun z => z = none)) 0 0 (fun _ => False) := by
  refine xmet (by decide) (Nat.le_of_ble_eq_true rfl) (fun p e s mm args below meth c ls hx hb hrt hml hown hts hlocks hname hB hl => ?_)
  obtain ⟨hP, hK, hN⟩ := hB
  have hl : lv_has ls 2 [(0, .ref (ad 0)), (1, .int (xI z1))] := hl
  obtain ⟨g, hg1, hg2⟩ := hC.2.2.1
  refine lv_iload_n hx hb dX4_textOf_0 rfl (lv_at hl 1 rfl) ?_
  refine x_if_lt (tgt := 22) hx hb dX4_textOf_1 (by decide) (by omega) (fun c_1 => ?_) (fun c_1 => ?_)
  · refine lv_null hx hb dX4_textOf_22 ?_
    exact xr_q hx hb hrt hlocks (rfl) dX4_textOf_23
  · refine lv_iload_n hx hb dX4_textOf_4 rfl (lv_at hl 1 rfl) ?_
    refine lv_aload_n hx hb dX4_textOf_5 rfl (lv_at hl 0 rfl) ?_
    refine x_get (T := TX4) (N := 6) hx hb hts uX4 hown hK hP (i := 0) (by omega) hC.1 rfl 1 (by decide) u_fl_RX4_17 rfl dX4_textOf_6 ?_
    refine x_alen hx hb hK hP (i := 2) (by omega) 3 hg1 rfl dX4_textOf_9 ?_
    refine x_icmp_ge (tgt := 22) hx hb dX4_textOf_10 (by decide) (by omega) (fun c_10 => ?_) (fun c_10 => absurd c_10 (by omega))
    refine lv_null hx hb dX4_textOf_22 ?_
    exact xr_q hx hb hrt hlocks (rfl) dX4_textOf_23

set_option maxRecDepth 20000 in
theorem c_X4_cutterOf_in (l : Launch) (D : va_G) (cA : Nat → ClassId) (n : Nat) (ad : Nat → Nat) (en : Nat → va_E) (hn : 53 ≤ n) {S : xSt} (hC : CW cA ad en S) (b : Nat) (hb4 : b < 2) : Met l yX4_cutterOf (Cond.code yX4_cutterOf cX4_cutterOf 2 (some (.object "RowsOfSigns$Cutter")) :: xU) (xrm 0 0) (va_Pc [.ref (ad 0), .int (xI (b : Int))] (xB D cA n ad en)) (va_Sq (fun z => z = some (ad (45 + 4 * b)))) 0 0 (fun _ => False) := by
  refine xmet (by decide) (Nat.le_of_ble_eq_true rfl) (fun p e s mm args below meth c ls hx hb hrt hml hown hts hlocks hname hB hl => ?_)
  obtain ⟨hP, hK, hN⟩ := hB
  have hl : lv_has ls 2 [(0, .ref (ad 0)), (1, .int (xI (b : Int)))] := hl
  obtain ⟨g, hg1, hg2⟩ := hC.2.2.2.1
  refine lv_iload_n hx hb dX4_cutterOf_0 rfl (lv_at hl 1 rfl) ?_
  refine x_if_lt (tgt := 22) hx hb dX4_cutterOf_1 (by decide) (by omega) (fun c_1 => absurd c_1 (by omega)) (fun c_1 => ?_)
  refine lv_iload_n hx hb dX4_cutterOf_4 rfl (lv_at hl 1 rfl) ?_
  refine lv_aload_n hx hb dX4_cutterOf_5 rfl (lv_at hl 0 rfl) ?_
  refine x_get (T := TX4) (N := 6) hx hb hts uX4 hown hK hP (i := 0) (by omega) hC.1 rfl 2 (by decide) u_fl_RX4_23 rfl dX4_cutterOf_6 ?_
  refine x_alen hx hb hK hP (i := 3) (by omega) 4 hg1 rfl dX4_cutterOf_9 ?_
  refine x_icmp_ge (tgt := 22) hx hb dX4_cutterOf_10 (by decide) (by omega) (fun c_10 => absurd c_10 (by omega)) (fun c_10 => ?_)
  refine lv_aload_n hx hb dX4_cutterOf_13 rfl (lv_at hl 0 rfl) ?_
  refine x_get (T := TX4) (N := 6) hx hb hts uX4 hown hK hP (i := 0) (by omega) hC.1 rfl 2 (by decide) u_fl_RX4_23 rfl dX4_cutterOf_14 ?_
  refine lv_iload_n hx hb dX4_cutterOf_17 rfl (lv_at hl 1 rfl) ?_
  refine x_qld hx hb hK hP (i := 3) (by omega) 4 hg1 rfl (a := ad (45 + 4 * b)) (by omega) (by rw [show Int.toNat (b : Int) = b by omega]; exact hg2 b hb4) dX4_cutterOf_18 ?_
  refine lv_goto (tgt := 23) hx hb dX4_cutterOf_19 (by decide) ?_
  exact xr_q hx hb hrt hlocks (rfl) dX4_cutterOf_23

set_option maxRecDepth 20000 in
theorem c_X4_cutterOf_out (l : Launch) (D : va_G) (cA : Nat → ClassId) (n : Nat) (ad : Nat → Nat) (en : Nat → va_E) (hn : 53 ≤ n) {S : xSt} (hC : CW cA ad en S) (z1 : Int) (hz1 : -2147483648 ≤ z1 ∧ z1 ≤ 2147483647) (h1 : ¬ (0 ≤ z1 ∧ z1 < 2)) : Met l yX4_cutterOf (Cond.code yX4_cutterOf cX4_cutterOf 2 (some (.object "RowsOfSigns$Cutter")) :: xU) (xrm 0 0) (va_Pc [.ref (ad 0), .int (xI z1)] (xB D cA n ad en)) (va_Sq (fun z => z = none)) 0 0 (fun _ => False) := by
  refine xmet (by decide) (Nat.le_of_ble_eq_true rfl) (fun p e s mm args below meth c ls hx hb hrt hml hown hts hlocks hname hB hl => ?_)
  obtain ⟨hP, hK, hN⟩ := hB
  have hl : lv_has ls 2 [(0, .ref (ad 0)), (1, .int (xI z1))] := hl
  obtain ⟨g, hg1, hg2⟩ := hC.2.2.2.1
  refine lv_iload_n hx hb dX4_cutterOf_0 rfl (lv_at hl 1 rfl) ?_
  refine x_if_lt (tgt := 22) hx hb dX4_cutterOf_1 (by decide) (by omega) (fun c_1 => ?_) (fun c_1 => ?_)
  · refine lv_null hx hb dX4_cutterOf_22 ?_
    exact xr_q hx hb hrt hlocks (rfl) dX4_cutterOf_23
  · refine lv_iload_n hx hb dX4_cutterOf_4 rfl (lv_at hl 1 rfl) ?_
    refine lv_aload_n hx hb dX4_cutterOf_5 rfl (lv_at hl 0 rfl) ?_
    refine x_get (T := TX4) (N := 6) hx hb hts uX4 hown hK hP (i := 0) (by omega) hC.1 rfl 2 (by decide) u_fl_RX4_23 rfl dX4_cutterOf_6 ?_
    refine x_alen hx hb hK hP (i := 3) (by omega) 4 hg1 rfl dX4_cutterOf_9 ?_
    refine x_icmp_ge (tgt := 22) hx hb dX4_cutterOf_10 (by decide) (by omega) (fun c_10 => ?_) (fun c_10 => absurd c_10 (by omega))
    refine lv_null hx hb dX4_cutterOf_22 ?_
    exact xr_q hx hb hrt hlocks (rfl) dX4_cutterOf_23

set_option maxRecDepth 20000 in
theorem c_X4_textOrFour_some (l : Launch) (D : va_G) (cA : Nat → ClassId) (n : Nat) (ad : Nat → Nat) (en : Nat → va_E) (hn : 53 ≤ n) {S : xSt} (hC : CW cA ad en S) (t : Nat) (ht8 : t < 8) {r : xRow} (hS : S.2.1 t = some r) : Met l yX4_textOrFour (Cond.code yX4_textOrFour cX4_textOrFour 3 (some (.object "RowsOfSigns$Row")) :: xU) (xrm 1 21) (va_Pc [.ref (ad 0), .int (xI (t : Int))] (xB D cA n ad en)) (va_Sq (fun z => z = some (ad (21 + 3 * t + 1)))) 0 0 (fun _ => False) := by
  refine xmet (by decide) (Nat.le_of_ble_eq_true rfl) (fun p e s mm args below meth c ls hx hb hrt hml hown hts hlocks hname hB hl => ?_)
  obtain ⟨hP, hK, hN⟩ := hB
  have hl : lv_has ls 3 [(0, .ref (ad 0)), (1, .int (xI (t : Int)))] := hl
  have hT := hC.rt ht8
  rw [hS] at hT
  refine lv_aload_n hx hb dX4_textOrFour_0 rfl (lv_at hl 0 rfl) ?_
  refine lv_iload_n hx hb dX4_textOrFour_1 rfl (lv_at hl 1 rfl) ?_
  refine xv_q (i := 0) (As := [.int (xI (t : Int))]) (rest := []) ⟨hx, hb, hml, hown, hts⟩ hl.1 (c_X4_textOf_in l D cA n ad en (by omega) hC t (by omega)) k_X4_textOf u_ml_RX4_97 hK hN hP (by omega) hC.1 rfl rfl rfl rfl (Nat.le_of_ble_eq_true rfl) ⟨Nat.le_of_ble_eq_true rfl, Nat.le_of_ble_eq_true rfl⟩ ⟨Nat.le_of_ble_eq_true rfl, Nat.le_of_ble_eq_true rfl⟩ dX4_textOrFour_2 ?_
  refine lv_astore_n (lv' := [(2, .ref (ad (21 + 3 * t))), (0, .ref (ad 0)), (1, .int (xI (t : Int)))]) hx hb dX4_textOrFour_5 rfl hl (by decide) rfl (fun ls hl => ?_)
  refine lv_aload_n hx hb dX4_textOrFour_6 rfl (lv_at hl 0 rfl) ?_
  refine lv_ifnonnull (tgt := 12) hx hb dX4_textOrFour_7 (by decide) ?_
  refine lv_aload_n hx hb dX4_textOrFour_12 rfl (lv_at hl 0 rfl) ?_
  refine x_getn (T := TX3) (N := 2) hx hb hts uX3 hown hN hK hP (i := 21 + 3 * t) (by omega) hT.1 rfl 1 (by decide) (by simp only [xNest, List.mem_cons]; exact Or.inr (Or.inr (Or.inr (Or.inr (Or.inr (Or.inr (Or.inl rfl))))))) rfl dX4_textOrFour_13 ?_
  refine x_if_eq (tgt := 26) hx hb dX4_textOrFour_16 (by decide) (by omega) (fun c_16 => ?_) (fun c_16 => absurd c_16 (by omega))
  refine lv_aload_n hx hb dX4_textOrFour_26 rfl (lv_at hl 0 rfl) ?_
  refine x_getn (T := TX3) (N := 2) hx hb hts uX3 hown hN hK hP (i := 21 + 3 * t) (by omega) hT.1 rfl 0 (by decide) (by simp only [xNest, List.mem_cons]; exact Or.inr (Or.inr (Or.inr (Or.inr (Or.inr (Or.inl rfl)))))) rfl dX4_textOrFour_27 ?_
  exact xr_q hx hb hrt hlocks (rfl) dX4_textOrFour_30

set_option maxRecDepth 20000 in
theorem c_X4_textOrFour_none (l : Launch) (D : va_G) (cA : Nat → ClassId) (n : Nat) (ad : Nat → Nat) (en : Nat → va_E) (hn : 53 ≤ n) {S : xSt} (hC : CW cA ad en S) (t : Nat) (ht8 : t < 8) (hS : S.2.1 t = none) : Met l yX4_textOrFour (Cond.code yX4_textOrFour cX4_textOrFour 3 (some (.object "RowsOfSigns$Row")) :: xU) (xrm 1 21) (va_Pc [.ref (ad 0), .int (xI (t : Int))] (xB D cA n ad en)) (va_Sq (fun z => z = some (ad 9))) 0 0 (fun _ => False) := by
  refine xmet (by decide) (Nat.le_of_ble_eq_true rfl) (fun p e s mm args below meth c ls hx hb hrt hml hown hts hlocks hname hB hl => ?_)
  obtain ⟨hP, hK, hN⟩ := hB
  have hl : lv_has ls 3 [(0, .ref (ad 0)), (1, .int (xI (t : Int)))] := hl
  have hT := hC.rt ht8
  rw [hS] at hT
  refine lv_aload_n hx hb dX4_textOrFour_0 rfl (lv_at hl 0 rfl) ?_
  refine lv_iload_n hx hb dX4_textOrFour_1 rfl (lv_at hl 1 rfl) ?_
  refine xv_q (i := 0) (As := [.int (xI (t : Int))]) (rest := []) ⟨hx, hb, hml, hown, hts⟩ hl.1 (c_X4_textOf_in l D cA n ad en (by omega) hC t (by omega)) k_X4_textOf u_ml_RX4_97 hK hN hP (by omega) hC.1 rfl rfl rfl rfl (Nat.le_of_ble_eq_true rfl) ⟨Nat.le_of_ble_eq_true rfl, Nat.le_of_ble_eq_true rfl⟩ ⟨Nat.le_of_ble_eq_true rfl, Nat.le_of_ble_eq_true rfl⟩ dX4_textOrFour_2 ?_
  refine lv_astore_n (lv' := [(2, .ref (ad (21 + 3 * t))), (0, .ref (ad 0)), (1, .int (xI (t : Int)))]) hx hb dX4_textOrFour_5 rfl hl (by decide) rfl (fun ls hl => ?_)
  refine lv_aload_n hx hb dX4_textOrFour_6 rfl (lv_at hl 0 rfl) ?_
  refine lv_ifnonnull (tgt := 12) hx hb dX4_textOrFour_7 (by decide) ?_
  refine lv_aload_n hx hb dX4_textOrFour_12 rfl (lv_at hl 0 rfl) ?_
  refine x_getn (T := TX3) (N := 2) hx hb hts uX3 hown hN hK hP (i := 21 + 3 * t) (by omega) hT.1 rfl 1 (by decide) (by simp only [xNest, List.mem_cons]; exact Or.inr (Or.inr (Or.inr (Or.inr (Or.inr (Or.inr (Or.inl rfl))))))) rfl dX4_textOrFour_13 ?_
  refine x_if_eq (tgt := 26) hx hb dX4_textOrFour_16 (by decide) (by omega) (fun c_16 => absurd c_16 (by omega)) (fun c_16 => ?_)
  refine lv_aload_n hx hb dX4_textOrFour_19 rfl (lv_at hl 1 rfl) ?_
  refine x_get (T := TX4) (N := 6) hx hb hts uX4 hown hK hP (i := 0) (by omega) hC.1 rfl 4 (by decide) u_fl_RX4_35 rfl dX4_textOrFour_20 ?_
  refine lv_goto (tgt := 30) hx hb dX4_textOrFour_23 (by decide) ?_
  exact xr_q hx hb hrt hlocks (rfl) dX4_textOrFour_30

set_option maxRecDepth 20000 in
theorem c_X4_textOrFour_out (l : Launch) (D : va_G) (cA : Nat → ClassId) (n : Nat) (ad : Nat → Nat) (en : Nat → va_E) (hn : 53 ≤ n) {S : xSt} (hC : CW cA ad en S) (z1 : Int) (hz1 : -2147483648 ≤ z1 ∧ z1 ≤ 2147483647) (h1 : ¬ (0 ≤ z1 ∧ z1 < 8)) : Met l yX4_textOrFour (Cond.code yX4_textOrFour cX4_textOrFour 3 (some (.object "RowsOfSigns$Row")) :: xU) (xrm 1 21) (va_Pc [.ref (ad 0), .int (xI z1)] (xB D cA n ad en)) (va_Sq (fun z => z = none)) 0 0 (fun _ => False) := by
  refine xmet (by decide) (Nat.le_of_ble_eq_true rfl) (fun p e s mm args below meth c ls hx hb hrt hml hown hts hlocks hname hB hl => ?_)
  obtain ⟨hP, hK, hN⟩ := hB
  have hl : lv_has ls 3 [(0, .ref (ad 0)), (1, .int (xI z1))] := hl
  refine lv_aload_n hx hb dX4_textOrFour_0 rfl (lv_at hl 0 rfl) ?_
  refine lv_iload_n hx hb dX4_textOrFour_1 rfl (lv_at hl 1 rfl) ?_
  refine xv_q (i := 0) (As := [.int (xI z1)]) (rest := []) ⟨hx, hb, hml, hown, hts⟩ hl.1 (c_X4_textOf_out l D cA n ad en (by omega) hC z1 (by omega) (by omega)) k_X4_textOf u_ml_RX4_97 hK hN hP (by omega) hC.1 rfl rfl rfl rfl (Nat.le_of_ble_eq_true rfl) ⟨Nat.le_of_ble_eq_true rfl, Nat.le_of_ble_eq_true rfl⟩ ⟨Nat.le_of_ble_eq_true rfl, Nat.le_of_ble_eq_true rfl⟩ dX4_textOrFour_2 ?_
  refine lv_astore_nN (lv' := [(2, .null), (0, .ref (ad 0)), (1, .int (xI z1))]) hx hb dX4_textOrFour_5 rfl hl (by decide) rfl (fun ls hl => ?_)
  refine lv_aload_nN hx hb dX4_textOrFour_6 rfl (lv_at hl 0 rfl) ?_
  refine lv_ifnonnullN hx hb dX4_textOrFour_7 ?_
  refine lv_null hx hb dX4_textOrFour_10 ?_
  exact xr_q hx hb hrt hlocks (rfl) dX4_textOrFour_11

set_option maxRecDepth 20000 in
theorem c_X4_nothing (l : Launch) (D : va_G) (cA : Nat → ClassId) (n : Nat) (ad : Nat → Nat) (en : Nat → va_E) (sz : Nat) (hn : 53 ≤ n) {S : xSt} (hC : CW cA ad en S) {m : Nat} {f : Nat → Int} (hr : XR cA ad en 11 m f) : Met l yX4_nothing (Cond.code yX4_nothing cX4_nothing 1 (some (.object "RowsOfSigns$Row")) :: xU) (xrm 1 20) (va_Pc [.ref (ad 0)] (xM D cA n ad en sz)) (va_Qq (fun r u => r = some (ad 11) ∧ XR cA ad u 11 0 f ∧ xO 11 13 en u) (xE D n ad) (xA n ad sz)) 0 0 (xA n ad sz) := by
  refine xmet (by decide) (Nat.le_of_ble_eq_true rfl) (fun p e s mm args below meth c ls hx hb hrt hml hown hts hlocks hname hB hl => ?_)
  obtain ⟨⟨hP, hK, hN⟩, hsz, hDt⟩ := hB
  have hD : xD (xA n ad sz) n ad := xD_self hDt sz
  have hA : ∀ q : Nat, s.heap.size ≤ q → xA n ad sz q := fun q h => Or.inr (by rw [← hsz]; exact h)
  have hS : va_S (xA n ad sz) s.heap s.heap [] := va_S.rf
  have hown : s.vm.findClass RX4 = some mm.cls := hown
  have hl : lv_has ls 1 [(0, .ref (ad 0))] := hl
  refine lv_aload_n hx hb dX4_nothing_0 rfl (lv_at hl 0 rfl) ?_
  refine x_get (T := TX4) (N := 6) hx hb hts uX4 hown hK hP (i := 0) (by omega) hC.1 rfl 5 (by decide) u_fl_RX4_39 rfl dX4_nothing_1 ?_
  refine xm_v (i := 11) (As := []) (rest := []) ⟨hx, hb, hml, hown, hts⟩ hl.1 (c_X2_clear l D cA n ad en _ (by omega) hr) k_X2_clear u_ml_RX4_235 hK hN hP (by omega) hr.1 rfl rfl rfl rfl (Nat.le_of_ble_eq_true rfl) ⟨Nat.le_of_ble_eq_true rfl, Nat.le_of_ble_eq_true rfl⟩ ⟨Nat.le_of_ble_eq_true rfl, Nat.le_of_ble_eq_true rfl⟩ dX4_nothing_4 hD hS hA (fun en1 H locs hp1 hP hS => ?_)
  obtain ⟨hr, hos⟩ := hp1
  have hC := hC.spare hos hr
  have ho := hos
  refine lv_aload_n hx hb dX4_nothing_7 rfl (lv_at hl 0 rfl) ?_
  refine x_get (T := TX4) (N := 6) hx hb hts uX4 hown hK hP (i := 0) (by omega) hC.1 rfl 5 (by decide) u_fl_RX4_39 rfl dX4_nothing_8 ?_
  exact xe_q hx hb hrt hlocks hP hS (r := some (ad 11)) rfl (⟨rfl, hr, ho⟩) dX4_nothing_11

set_option maxRecDepth 20000 in
theorem c_X4_single (l : Launch) (D : va_G) (cA : Nat → ClassId) (n : Nat) (ad : Nat → Nat) (en : Nat → va_E) (sz : Nat) (hn : 53 ≤ n) {S : xSt} (hC : CW cA ad en S) {m : Nat} {f : Nat → Int} (hr : XR cA ad en 11 m f) (z1 : Int) (hz1 : 0 ≤ z1 ∧ z1 ≤ 255) : Met l yX4_single (Cond.code yX4_single cX4_single 2 (some (.object "RowsOfSigns$Row")) :: xU) (xrm 1 21) (va_Pc [.ref (ad 0), .int (xI z1)] (xM D cA n ad en sz)) (va_Qq (fun r u => r = some (ad 11) ∧ XR cA ad u 11 1 (fun _ => z1) ∧ xO 11 13 en u) (xE D n ad) (xA n ad sz)) 0 0 (xA n ad sz) := by
  refine xmet (by decide) (Nat.le_of_ble_eq_true rfl) (fun p e s mm args below meth c ls hx hb hrt hml hown hts hlocks hname hB hl => ?_)
  obtain ⟨⟨hP, hK, hN⟩, hsz, hDt⟩ := hB
  have hD : xD (xA n ad sz) n ad := xD_self hDt sz
  have hA : ∀ q : Nat, s.heap.size ≤ q → xA n ad sz q := fun q h => Or.inr (by rw [← hsz]; exact h)
  have hS : va_S (xA n ad sz) s.heap s.heap [] := va_S.rf
  have hown : s.vm.findClass RX4 = some mm.cls := hown
  have hl : lv_has ls 2 [(0, .ref (ad 0)), (1, .int (xI z1))] := hl
  refine lv_aload_n hx hb dX4_single_0 rfl (lv_at hl 0 rfl) ?_
  refine x_get (T := TX4) (N := 6) hx hb hts uX4 hown hK hP (i := 0) (by omega) hC.1 rfl 5 (by decide) u_fl_RX4_39 rfl dX4_single_1 ?_
  refine xm_v (i := 11) (As := []) (rest := []) ⟨hx, hb, hml, hown, hts⟩ hl.1 (c_X2_clear l D cA n ad en _ (by omega) hr) k_X2_clear u_ml_RX4_235 hK hN hP (by omega) hr.1 rfl rfl rfl rfl (Nat.le_of_ble_eq_true rfl) ⟨Nat.le_of_ble_eq_true rfl, Nat.le_of_ble_eq_true rfl⟩ ⟨Nat.le_of_ble_eq_true rfl, Nat.le_of_ble_eq_true rfl⟩ dX4_single_4 hD hS hA (fun en1 H locs hp1 hP hS => ?_)
  obtain ⟨hr, hos⟩ := hp1
  have hC := hC.spare hos hr
  have ho := hos
  refine lv_aload_n hx hb dX4_single_7 rfl (lv_at hl 0 rfl) ?_
  refine x_get (T := TX4) (N := 6) hx hb hts uX4 hown hK hP (i := 0) (by omega) hC.1 rfl 5 (by decide) u_fl_RX4_39 rfl dX4_single_8 ?_
  refine lv_iload_n hx hb dX4_single_11 rfl (lv_at hl 1 rfl) ?_
  refine xm_v (i := 11) (As := [.int (xI z1)]) (rest := []) ⟨hx, hb, hml, hown, hts⟩ hl.1 (c_X2_add l D cA n ad en1 _ (by omega) hr (by omega) z1 (hz1)) k_X2_add u_ml_RX4_48 hK hN hP (by omega) hr.1 rfl rfl rfl rfl (Nat.le_of_ble_eq_true rfl) ⟨Nat.le_of_ble_eq_true rfl, Nat.le_of_ble_eq_true rfl⟩ ⟨Nat.le_of_ble_eq_true rfl, Nat.le_of_ble_eq_true rfl⟩ dX4_single_12 hD hS hA (fun en2 H locs hp2 hP hS => ?_)
  obtain ⟨hr, hos⟩ := hp2
  have hC := hC.spare hos hr
  have ho := ho.tr hos
  refine lv_aload_n hx hb dX4_single_15 rfl (lv_at hl 0 rfl) ?_
  refine x_get (T := TX4) (N := 6) hx hb hts uX4 hown hK hP (i := 0) (by omega) hC.1 rfl 5 (by decide) u_fl_RX4_39 rfl dX4_single_16 ?_
  exact xe_q hx hb hrt hlocks hP hS (r := some (ad 11)) rfl (⟨rfl, hr.to rfl (fun t ht => by rw [show t = 0 by omega, sp_up_s]), ho⟩) dX4_single_19

set_option maxRecDepth 20000 in
theorem c_X4_lowBytes (l : Launch) (D : va_G) (cA : Nat → ClassId) (n : Nat) (ad : Nat → Nat) (en : Nat → va_E) (sz : Nat) (hn : 53 ≤ n) {S : xSt} (hC : CW cA ad en S) {m : Nat} {f : Nat → Int} (hr : XR cA ad en 11 m f) (k : Nat) (hk8 : k ≤ 8) (w : Int64) : Met l yX4_lowBytes (Cond.code yX4_lowBytes cX4_lowBytes 5 (some (.object "RowsOfSigns$Row")) :: xU) (xrm 1 21) (va_Pc [.ref (ad 0), .int (xI (k : Int)), .long w] (xM D cA n ad en sz)) (va_Qq (fun r u => r = some (ad 11) ∧ XR cA ad u 11 k (fun t => sp_by w (k - 1 - t)) ∧ xO 11 13 en u) (xE D n ad) (xA n ad sz)) 0 0 (xA n ad sz) := by
  refine xmet (by decide) (Nat.le_of_ble_eq_true rfl) (fun p e s mm args below meth c ls hx hb hrt hml hown hts hlocks hname hB hl => ?_)
  obtain ⟨⟨hP, hK, hN⟩, hsz, hDt⟩ := hB
  have hD : xD (xA n ad sz) n ad := xD_self hDt sz
  have hA : ∀ q : Nat, s.heap.size ≤ q → xA n ad sz q := fun q h => Or.inr (by rw [← hsz]; exact h)
  have hS : va_S (xA n ad sz) s.heap s.heap [] := va_S.rf
  have hown : s.vm.findClass RX4 = some mm.cls := hown
  have hl : lv_has ls 5 [(0, .ref (ad 0)), (1, .int (xI (k : Int))), (2, .long w)] := hl
  refine lv_aload_n hx hb dX4_lowBytes_0 rfl (lv_at hl 0 rfl) ?_
  refine x_get (T := TX4) (N := 6) hx hb hts uX4 hown hK hP (i := 0) (by omega) hC.1 rfl 5 (by decide) u_fl_RX4_39 rfl dX4_lowBytes_1 ?_
  refine xm_v (i := 11) (As := []) (rest := []) ⟨hx, hb, hml, hown, hts⟩ hl.1 (c_X2_clear l D cA n ad en _ (by omega) hr) k_X2_clear u_ml_RX4_235 hK hN hP (by omega) hr.1 rfl rfl rfl rfl (Nat.le_of_ble_eq_true rfl) ⟨Nat.le_of_ble_eq_true rfl, Nat.le_of_ble_eq_true rfl⟩ ⟨Nat.le_of_ble_eq_true rfl, Nat.le_of_ble_eq_true rfl⟩ dX4_lowBytes_4 hD hS hA (fun en1 H locs hp1 hP hS => ?_)
  obtain ⟨hr, hos⟩ := hp1
  have hC := hC.spare hos hr
  have ho := hos
  refine lv_iload_n hx hb dX4_lowBytes_7 rfl (lv_at hl 1 rfl) ?_
  refine x_iconst hx hb dX4_lowBytes_8 ?_
  refine x_isub hx hb dX4_lowBytes_9 ?_
  refine lv_istore (lv' := [(4, .int (xI ((k : Int) - 1))), (0, .ref (ad 0)), (1, .int (xI (k : Int))), (2, .long w)]) hx hb dX4_lowBytes_10 hl (by decide) rfl (fun ls hl => ?_)
  have L12 : ∀ (nn : Nat) (a : Int) (F : Nat → Int) (ew12 : Nat → va_E) (H : Heap) (locs : List Loc), (-1 ≤ a ∧ a < (k : Int)) → (∀ t : Nat, t < (k - 1 - a).toNat → F t = sp_by w (k - 1 - t)) → ((a + 1).toNat) < nn → (CW cA ad ew12 S) → (XR cA ad ew12 11 (k - 1 - a).toNat F) → (xO 11 13 en ew12) → va_P D vwCl (xw n ad ew12) H → va_S (xA n ad sz) s.heap H locs → ∀ ls : Array Slot, lv_has ls 5 [(0, .ref (ad 0)), (1, .int (xI (k : Int))), (2, .long w), (4, .int (xI a))] → W p l e (xrm 1 21) s mm args below meth c H locs 0 0 (MQ below (va_Qq (fun r u => r = some (ad 11) ∧ XR cA ad u 11 k (fun t => sp_by w (k - 1 - t)) ∧ xO 11 13 en u) (xE D n ad) (xA n ad sz)) args s 0 0 (xA n ad sz)) (F0 mm 12 ls []) := by
    intro nn
    induction nn with
    | zero =>
      intro a F ew12 H locs ha hF hmm hC hr ho hP hS ls hl
      exact absurd hmm (Nat.not_lt_zero _)
    | succ nn ih =>
      intro a F ew12 H locs ha hF hmm hC hr ho hP hS ls hl
      have hm2 : (((k - 1 - a).toNat : Nat) : Int) = k - 1 - a := by omega
      refine lv_iload hx hb dX4_lowBytes_12 (lv_at hl 3 rfl) ?_
      refine x_if_lt (tgt := 42) hx hb dX4_lowBytes_14 (by decide) (by omega) (fun c_14 => ?_) (fun c_14 => ?_)
      · refine lv_aload_n hx hb dX4_lowBytes_42 rfl (lv_at hl 0 rfl) ?_
        refine x_get (T := TX4) (N := 6) hx hb hts uX4 hown hK hP (i := 0) (by omega) hC.1 rfl 5 (by decide) u_fl_RX4_39 rfl dX4_lowBytes_43 ?_
        exact xe_q hx hb hrt hlocks hP hS (r := some (ad 11)) rfl (⟨rfl, hr.to (by omega) (fun t ht => hF t (by omega)), ho⟩) dX4_lowBytes_46
      · obtain ⟨q, rfl⟩ : ∃ q : Nat, a = (q : Int) := ⟨a.toNat, by omega⟩
        refine lv_aload_n hx hb dX4_lowBytes_17 rfl (lv_at hl 0 rfl) ?_
        refine x_get (T := TX4) (N := 6) hx hb hts uX4 hown hK hP (i := 0) (by omega) hC.1 rfl 5 (by decide) u_fl_RX4_39 rfl dX4_lowBytes_18 ?_
        refine lv_lload_n hx hb dX4_lowBytes_21 rfl (lv_at hl 2 rfl) ?_
        refine x_bipush hx hb dX4_lowBytes_22 (by decide +kernel) ?_
        refine lv_iload hx hb dX4_lowBytes_24 (lv_at hl 3 rfl) ?_
        refine x_imul hx hb dX4_lowBytes_26 ?_
        refine lv_lushr hx hb dX4_lowBytes_27 rfl ?_
        refine lv_l2i hx hb dX4_lowBytes_28 rfl ?_
        refine x_sipush hx hb dX4_lowBytes_29 (by decide +kernel) ?_
        refine lv_iand hx hb dX4_lowBytes_32 ?_
        refine x_toi (sp_by w q) (sp_by_u w (by omega)) ?_
        refine xm_v (i := 11) (As := [.int (xI (sp_by w q))]) (rest := []) ⟨hx, hb, hml, hown, hts⟩ hl.1 (c_X2_add l D cA n ad ew12 _ (by omega) hr (by omega) (sp_by w q) (sp_by_b w q)) k_X2_add u_ml_RX4_48 hK hN hP (by omega) hr.1 rfl rfl rfl rfl (Nat.le_of_ble_eq_true rfl) ⟨Nat.le_of_ble_eq_true rfl, Nat.le_of_ble_eq_true rfl⟩ ⟨Nat.le_of_ble_eq_true rfl, Nat.le_of_ble_eq_true rfl⟩ dX4_lowBytes_33 hD hS hA (fun en2 H locs hp2 hP hS => ?_)
        obtain ⟨hr, hos⟩ := hp2
        have hC := hC.spare hos hr
        have ho := ho.tr hos
        refine x_iinc (lv' := [(4, .int (xI ((q : Int) + (-1)))), (0, .ref (ad 0)), (1, .int (xI (k : Int))), (2, .long w)]) (k := 3) hx hb dX4_lowBytes_36 hl rfl (by decide) rfl (fun ls hl => ?_)
        refine lv_goto (tgt := 12) hx hb dX4_lowBytes_39 (by decide) ?_
        exact ih ((q : Int) + (-1)) _ en2 _ _ (by omega) (fun t ht => by
        by_cases q1 : t = ((k : Int) - 1 - (q : Int)).toNat
        · rw [q1, sp_up_s, show k - 1 - ((k : Int) - 1 - (q : Int)).toNat = q by omega]
        · rw [sp_up_n _ _ q1]
          exact hF t (by omega)) (by omega) hC (hr.to (f' := sp_up F ((k : Int) - 1 - (q : Int)).toNat (sp_by w q)) (by omega) (fun t _ => rfl)) ho hP hS ls (lv_sub hl [1, 2, 3, 0] rfl)
  exact L12 _ ((k : Int) - 1) f en1 _ _ (by omega) (fun t ht => absurd ht (by omega)) (Nat.lt_succ_self _) hC (hr.to (by omega) (fun t _ => rfl)) ho hP hS ls (lv_sub hl [1, 2, 3, 0] rfl)
end
section
/-! what the static rows hold -/
def sp_nosl (j : Nat) : Int := if j = 0 then 36 else if j = 1 then 40 else if j = 2 then 41 else if j = 3 then 42 else if j = 4 then 43 else if j = 5 then 46 else if j = 6 then 63 else if j = 7 then 91 else if j = 8 then 92 else if j = 9 then 94 else if j = 10 then 123 else 124
theorem sp_nosl_b (j : Nat) : 36 ≤ sp_nosl j ∧ sp_nosl j ≤ 124 := by unfold sp_nosl; omega
def sp_sepok (z : Int) : Prop := (0 ≤ z ∧ z < 256) ∧ ∀ j : Nat, j < 12 → ¬ sp_nosl j = z
def xZA (A : Nat → Prop) (U : State) (H : Heap) : Prop := ∃ t : Nat, va_Z "RowsOfSigns" "NO_SEPARATORS" "[I" (.ref t) A U H ∧ va_T .int t 12 (fun j => .int (xI (sp_nosl j))) A U H
def xZ (U : State) : Prop := xZA (fun _ => False) U U.heap
theorem xZA.to {A : Nat → Prop} {s U : State} {H : Heap} {locs : List Loc} (h : xZA A s s.heap) (hS : va_S A s.heap H locs) (hU : U.heap = H) (hW : s.WarmedH U.vm) : xZ U := by
  obtain ⟨t, h1, h2⟩ := h
  subst hU
  exact ⟨t, ((h1.kept (fun a g1 g2 => hS.2.1 a g1 g2)).narrow (fun _ q => q.elim)).moved hW.alike, ((h2.kept (fun a g1 g2 => hS.2.1 a g1 g2)).narrow (fun _ q => q.elim)).moved hW.alike⟩
theorem xZ_calling {U : State} (g : JFrame) (mk : MethodId) (a : Array Value) (h : xZ U) : xZ (U.calling g mk a) := by
  obtain ⟨t, h1, h2⟩ := h
  exact ⟨t, va_Z.moved (u := U) (U := U.calling g mk a) (Vm.Alike.refl U.vm) h1, va_T.moved (u := U) (U := U.calling g mk a) (Vm.Alike.refl U.vm) h2⟩
theorem xZ_blind {av : List Value} : FrameBlind (va_Pc av xZ) := fun a _ g mk q => ⟨q.1, xZ_calling g mk a q.2⟩
section XCZ
variable {p : Program} {l : Launch} {e : Env} {R : Room} {s : State} {m : MethodId} {args : Array Value} {below : List Frame} {meth : Method} {c : Code} {H : Heap} {locs : List Loc} {cells slots : Nat} {Q : State → Prop}
variable {cc bytes : ByteArray} {pc : Nat} {ls : Array Slot} {rest st0 As : List Value} {D : va_G} {cA : Nat → ClassId} {n : Nat} {ad : Nat → Nat} {en : Nat → va_E} {A : Nat → Prop} {H0 : Heap} {own C : String} {y : MethodName} {maxL nL nn index fr lo : Nat} {ret : Option FieldType}
theorem x_sB {B : State → Prop} (F : CallFix p m c cc nL s args xU own) (hsz : ls.size = nL) {r : Int32} (hM : Met l y (Cond.code y bytes maxL ret :: xU) (xrm fr lo) (va_Pc As B) (vp_Si (fun z => z = r)) 0 0 (fun _ => False)) (hcal : xCalS y bytes maxL ret nn) (hl : Cond.methodLink own index y ∈ xU) (hnn : As.length = nn) (hst : st0 = As.reverse ++ rest) (hroom : (rest.map fun v => v.category).sum ≤ 8) (hR : fr + 1 ≤ R.frames ∧ 8 + (maxL + 11) + lo ≤ R.locals) (hf : cells ≤ R.cells ∧ slots ≤ R.slots) (hdg : decode cc pc = .ok (.invokestatic index, 3)) (hbl : FrameBlind (va_Pc As B)) (hB : ∀ U : State, U.heap = H → s.WarmedH U.vm → B U)
    (kk : W p l e R s m args below meth c H locs cells slots Q (F0 m (pc + 3) ls (.int r :: rest))) : W p l e R s m args below meth c H locs cells slots Q (F0 m pc ls st0) := by
  subst hst
  refine vp_callSi (W.runS (As := As) (rest := rest) F hM (x_cs F.2.2.2.2 hcal hl hR) ⟨hbl, fun U hU hW => ⟨rfl, hB U hU hW⟩⟩ rfl hnn hsz rfl (lv_room hroom) hdg ⟨hf.1, hf.2⟩) (fun z hz => ?_)
  subst hz
  exact kk
theorem xM_blindZ {sz : Nat} {av : List Value} : FrameBlind (va_Pc av (fun U => xM D cA n ad en sz U ∧ xZ U)) := fun a _ g mk q => ⟨q.1, ⟨xB_calling g mk a q.2.1.1, q.2.1.2.1, q.2.1.2.2⟩, xZ_calling g mk a q.2.2⟩
theorem xmZ_i (F : CallFix p m c cc nL s args xU own) (hsz : ls.size = nL) {i : Nat} {post : Int32 → (Nat → va_E) → Prop} (hM : Met l y (Cond.code y bytes maxL ret :: xU) (xrm fr lo) (va_Pc (.ref (ad i) :: As) (fun U => xM D cA n ad en H.size U ∧ xZ U)) (va_Qi post (xE D n ad) (xA n ad H.size)) 0 0 (xA n ad H.size)) (hcal : xCal C y bytes maxL ret nn) (hl : Cond.methodLink own index y ∈ xU) (hK : va_K D vwCl (xty cA) s) (hN : xN s) (hP : va_P D vwCl (xw n ad en) H) {ci : Nat} (hi : i < n) {fs : List Value} (he : en i = .inr (ci, fs)) {q : vw_C} (hc : vwCl[ci]? = some q) (hq : q.1 = C) (hnn : As.length = nn) (hst : st0 = As.reverse ++ .ref (ad i) :: rest) (hroom : (rest.map fun v => v.category).sum ≤ 8) (hR : fr + 1 ≤ R.frames ∧ 8 + (maxL + 11) + lo ≤ R.locals) (hf : cells ≤ R.cells ∧ slots ≤ R.slots) (hdg : decode cc pc = .ok (.invokevirtual index, 3)) (hD : xD A n ad) (hS : va_S A H0 H locs) (hA : ∀ q, H0.size ≤ q → A q) (hZ : ∀ U : State, U.heap = H → s.WarmedH U.vm → xZ U)
    (kk : ∀ (r : Int32) (u : Nat → va_E) (H1 : Heap) (locs1 : List Loc), post r u → va_P D vwCl (xw n ad u) H1 → va_S A H0 H1 locs1 → W p l e R s m args below meth c H1 locs1 cells slots Q (F0 m (pc + 3) ls (.int r :: rest))) : W p l e R s m args below meth c H locs cells slots Q (F0 m pc ls st0) := by
  subst hst
  subst hq
  have hF : ∀ q, xA n ad H.size q → A q := fun q h => by
    rcases h with ⟨j, hj, rfl⟩ | h
    · exact hD.2 j hj
    · exact hA q (Nat.le_trans hS.1 h)
  refine va_calli (va_runV (As := As) (rest := rest) F hM (x_cw F.2.2.2.2 hcal hl hR) ⟨xM_blindZ, va_recv hK hP hc (xw_ate hi he), fun U hU hW => ⟨rfl, ⟨xB_of hK hN hP hU hW, by rw [hU], xD_w hD (fun _ _ => trivial)⟩, hZ U hU hW⟩⟩ rfl hnn hsz rfl (lv_room hroom) hdg ⟨hf.1, hf.2⟩) hS (fun q _ h => hF q h) hF (fun r u t H1 locs1 ht _ hp hB _ _ hS1 => kk r u H1 locs1 hp (by rw [← ht]; exact hB) hS1)
end XCZ

set_option maxRecDepth 20000 in
theorem c_X4_figures (l : Launch) (D : va_G) (cA : Nat → ClassId) (n : Nat) (ad : Nat → Nat) (en : Nat → va_E) (sz : Nat) (hn : 53 ≤ n) {S : xSt} (hC : CW cA ad en S) {m : Nat} {f : Nat → Int} (hr : XR cA ad en 11 m f) (z1 : Int) (hz1 : -9223372036854775808 ≤ z1 ∧ z1 ≤ 9223372036854775807) : Met l yX4_figures (Cond.code yX4_figures cX4_figures 6 (some (.object "RowsOfSigns$Row")) :: xU) (xrm 3 66) (va_Pc [.ref (ad 0), .long (xL z1)] (xM D cA n ad en sz)) (va_Qq (fun r u => r = some (ad 11) ∧ XR cA ad u 11 (sp_nn z1) (sp_nf z1) ∧ xO 11 13 en u) (xE D n ad) (xA n ad sz)) 0 0 (xA n ad sz) := by
  refine xmet (by decide) (Nat.le_of_ble_eq_true rfl) (fun p e s mm args below meth c ls hx hb hrt hml hown hts hlocks hname hB hl => ?_)
  obtain ⟨⟨hP, hK, hN⟩, hsz, hDt⟩ := hB
  have hD : xD (xA n ad sz) n ad := xD_self hDt sz
  have hA : ∀ q : Nat, s.heap.size ≤ q → xA n ad sz q := fun q h => Or.inr (by rw [← hsz]; exact h)
  have hS : va_S (xA n ad sz) s.heap s.heap [] := va_S.rf
  have hown : s.vm.findClass RX4 = some mm.cls := hown
  have hl : lv_has ls 6 [(0, .ref (ad 0)), (1, .long (xL z1))] := hl
  refine lv_aload_n hx hb dX4_figures_0 rfl (lv_at hl 0 rfl) ?_
  refine x_get (T := TX4) (N := 6) hx hb hts uX4 hown hK hP (i := 0) (by omega) hC.1 rfl 5 (by decide) u_fl_RX4_39 rfl dX4_figures_1 ?_
  refine xm_v (i := 11) (As := []) (rest := []) ⟨hx, hb, hml, hown, hts⟩ hl.1 (c_X2_clear l D cA n ad en _ (by omega) hr) k_X2_clear u_ml_RX4_235 hK hN hP (by omega) hr.1 rfl rfl rfl rfl (Nat.le_of_ble_eq_true rfl) ⟨Nat.le_of_ble_eq_true rfl, Nat.le_of_ble_eq_true rfl⟩ ⟨Nat.le_of_ble_eq_true rfl, Nat.le_of_ble_eq_true rfl⟩ dX4_figures_4 hD hS hA (fun en1 H locs hp1 hP hS => ?_)
  obtain ⟨hr, hos⟩ := hp1
  have hC := hC.spare hos hr
  have ho := hos
  refine lv_lload_n hx hb dX4_figures_7 rfl (lv_at hl 1 rfl) ?_
  refine lv_lstore_n (lv' := [(3, .long (xL z1)), (0, .ref (ad 0)), (1, .long (xL z1))]) hx hb dX4_figures_8 rfl hl (by decide) rfl (fun ls hl => ?_)
  refine x_iconst hx hb dX4_figures_9 ?_
  refine lv_istore (lv' := [(5, .int (xI 0)), (3, .long (xL z1)), (0, .ref (ad 0)), (1, .long (xL z1))]) hx hb dX4_figures_10 hl (by decide) rfl (fun ls hl => ?_)
  have L12 : ∀ (nn : Nat) (q : Nat) (F : Nat → Int) (ew12 : Nat → va_E) (H : Heap) (locs : List Loc), (q ≤ 19) → (sp_ln z1 (19 - q) q = sp_len z1) → (∀ t : Nat, t < q → F t = sp_dg z1 t) → (19 - q) < nn → (CW cA ad ew12 S) → (XR cA ad ew12 11 q F) → (xO 11 13 en ew12) → va_P D vwCl (xw n ad ew12) H → va_S (xA n ad sz) s.heap H locs → ∀ ls : Array Slot, lv_has ls 6 [(0, .ref (ad 0)), (1, .long (xL z1)), (3, .long (xL (sp_q z1 q))), (5, .int (xI (q : Int)))] → W p l e (xrm 3 66) s mm args below meth c H locs 0 0 (MQ below (va_Qq (fun r u => r = some (ad 11) ∧ XR cA ad u 11 (sp_nn z1) (sp_nf z1) ∧ xO 11 13 en u) (xE D n ad) (xA n ad sz)) args s 0 0 (xA n ad sz)) (F0 mm 12 ls []) := by
    intro nn
    induction nn with
    | zero =>
      intro q F ew12 H locs hq hL hF hmm hC hr ho hP hS ls hl
      exact absurd hmm (Nat.not_lt_zero _)
    | succ nn ih =>
      intro q F ew12 H locs hq hL hF hmm hC hr ho hP hS ls hl
      refine lv_iload hx hb dX4_figures_12 (lv_at hl 3 rfl) ?_
      refine x_bipush hx hb dX4_figures_14 (by decide +kernel) ?_
      refine x_icmp_ge (tgt := 61) hx hb dX4_figures_16 (by decide) (by omega) (fun c_16 => ?_) (fun c_16 => ?_)
      · refine lv_lload_n hx hb dX4_figures_61 rfl (lv_at hl 1 rfl) ?_
        refine lv_lconst (v := xL 0) hx hb dX4_figures_62 (by decide +kernel) ?_
        refine x_lcmp hx hb dX4_figures_63 (⟨hz1, by omega⟩) ?_
        refine x_if_ge (tgt := 76) hx hb dX4_figures_64 (by decide) (xcmp_r _ _) (fun c_64 => ?_) (fun c_64 => ?_)
        · have c_64 := xcmp_ge.mp c_64
          refine lv_aload_n hx hb dX4_figures_76 rfl (lv_at hl 0 rfl) ?_
          refine x_get (T := TX4) (N := 6) hx hb hts uX4 hown hK hP (i := 0) (by omega) hC.1 rfl 5 (by decide) u_fl_RX4_39 rfl dX4_figures_77 ?_
          refine xm_v (i := 11) (As := []) (rest := []) ⟨hx, hb, hml, hown, hts⟩ hl.1 (c_X2_turnRound l D cA n ad ew12 _ (by omega) hr) k_X2_turnRound u_ml_RX4_108 hK hN hP (by omega) hr.1 rfl rfl rfl rfl (Nat.le_of_ble_eq_true rfl) ⟨Nat.le_of_ble_eq_true rfl, Nat.le_of_ble_eq_true rfl⟩ ⟨Nat.le_of_ble_eq_true rfl, Nat.le_of_ble_eq_true rfl⟩ dX4_figures_80 hD hS hA (fun en2 H locs hp2 hP hS => ?_)
          obtain ⟨hr, hos⟩ := hp2
          have hC := hC.spare hos hr
          have ho := ho.tr hos
          refine lv_aload_n hx hb dX4_figures_83 rfl (lv_at hl 0 rfl) ?_
          refine x_get (T := TX4) (N := 6) hx hb hts uX4 hown hK hP (i := 0) (by omega) hC.1 rfl 5 (by decide) u_fl_RX4_39 rfl dX4_figures_84 ?_
          have hE : q = sp_len z1 := by rw [← hL]; exact (sp_ln_e (by omega)).symm
          exact xe_q hx hb hrt hlocks hP hS (r := some (ad 11)) rfl (⟨rfl, hr.to (by rw [sp_nn_p (by omega)]; exact hE) (fun t ht => by
        unfold sp_nf
        rw [if_neg (by omega), sp_nn_p (by omega), ← hE]
        exact hF _ (by omega)), ho⟩) dX4_figures_87
        · have c_64 := xcmp_lt.mp c_64
          refine lv_aload_n hx hb dX4_figures_67 rfl (lv_at hl 0 rfl) ?_
          refine x_get (T := TX4) (N := 6) hx hb hts uX4 hown hK hP (i := 0) (by omega) hC.1 rfl 5 (by decide) u_fl_RX4_39 rfl dX4_figures_68 ?_
          refine x_bipush hx hb dX4_figures_71 (by decide +kernel) ?_
          refine xm_v (i := 11) (As := [.int (xI 45)]) (rest := []) ⟨hx, hb, hml, hown, hts⟩ hl.1 (c_X2_add l D cA n ad ew12 _ (by omega) hr (by omega) 45 (by omega)) k_X2_add u_ml_RX4_48 hK hN hP (by omega) hr.1 rfl rfl rfl rfl (Nat.le_of_ble_eq_true rfl) ⟨Nat.le_of_ble_eq_true rfl, Nat.le_of_ble_eq_true rfl⟩ ⟨Nat.le_of_ble_eq_true rfl, Nat.le_of_ble_eq_true rfl⟩ dX4_figures_73 hD hS hA (fun en3 H locs hp3 hP hS => ?_)
          obtain ⟨hr, hos⟩ := hp3
          have hC := hC.spare hos hr
          have ho := ho.tr hos
          refine lv_aload_n hx hb dX4_figures_76 rfl (lv_at hl 0 rfl) ?_
          refine x_get (T := TX4) (N := 6) hx hb hts uX4 hown hK hP (i := 0) (by omega) hC.1 rfl 5 (by decide) u_fl_RX4_39 rfl dX4_figures_77 ?_
          refine xm_v (i := 11) (As := []) (rest := []) ⟨hx, hb, hml, hown, hts⟩ hl.1 (c_X2_turnRound l D cA n ad en3 _ (by omega) hr) k_X2_turnRound u_ml_RX4_108 hK hN hP (by omega) hr.1 rfl rfl rfl rfl (Nat.le_of_ble_eq_true rfl) ⟨Nat.le_of_ble_eq_true rfl, Nat.le_of_ble_eq_true rfl⟩ ⟨Nat.le_of_ble_eq_true rfl, Nat.le_of_ble_eq_true rfl⟩ dX4_figures_80 hD hS hA (fun en4 H locs hp4 hP hS => ?_)
          obtain ⟨hr, hos⟩ := hp4
          have hC := hC.spare hos hr
          have ho := ho.tr hos
          refine lv_aload_n hx hb dX4_figures_83 rfl (lv_at hl 0 rfl) ?_
          refine x_get (T := TX4) (N := 6) hx hb hts uX4 hown hK hP (i := 0) (by omega) hC.1 rfl 5 (by decide) u_fl_RX4_39 rfl dX4_figures_84 ?_
          have hE : q = sp_len z1 := by rw [← hL]; exact (sp_ln_e (by omega)).symm
          exact xe_q hx hb hrt hlocks hP hS (r := some (ad 11)) rfl (⟨rfl, hr.to (by rw [sp_nn_n (by omega), ← hE]) (fun t ht => by
        unfold sp_nf
        rw [sp_nn_n (by omega), ← hE]
        by_cases q1 : t = 0
        · rw [if_pos ⟨by omega, q1⟩, q1, show q + 1 - 1 - 0 = q by omega, sp_up_s]
        · rw [if_neg (by omega), sp_up_n _ _ (by omega)]
          exact hF _ (by omega)), ho⟩) dX4_figures_87
      · refine lv_iload hx hb dX4_figures_19 (lv_at hl 3 rfl) ?_
        refine x_if_eq (tgt := 30) hx hb dX4_figures_21 (by decide) (by omega) (fun c_21 => ?_) (fun c_21 => ?_)
        · refine lv_aload_n hx hb dX4_figures_30 rfl (lv_at hl 0 rfl) ?_
          refine x_get (T := TX4) (N := 6) hx hb hts uX4 hown hK hP (i := 0) (by omega) hC.1 rfl 5 (by decide) u_fl_RX4_39 rfl dX4_figures_31 ?_
          refine x_bipush hx hb dX4_figures_34 (by decide +kernel) ?_
          refine lv_lload_n hx hb dX4_figures_36 rfl (lv_at hl 2 rfl) ?_
          refine x_ldc2 hx hb hown (hts _ u_ko_RX4_238) (k := 10) (by decide +kernel) dX4_figures_37 ?_
          refine x_lrem hx hb dX4_figures_40 (sp_q_r hz1 q) ?_
          refine x_l2i hx hb dX4_figures_41 ?_
          refine x_abs hx hb (hml.trans hl.1.symm) hts hown u_ml_RX4_240 (Nat.le_of_ble_eq_true rfl) (Nat.le_of_ble_eq_true rfl) (Nat.le_of_ble_eq_true rfl) (Nat.le_of_ble_eq_true rfl) (r := (if 0 ≤ (Int.tmod (sp_q z1 q) 10) then (Int.tmod (sp_q z1 q) 10) else -(Int.tmod (sp_q z1 q) 10))) (by have := sp_tm (sp_q z1 q); omega) (by omega) dX4_figures_42 ?_
          refine x_iadd hx hb dX4_figures_45 ?_
          refine x_to (sp_dg z1 q) (rfl) ?_
          refine xm_v (i := 11) (As := [.int (xI (sp_dg z1 q))]) (rest := []) ⟨hx, hb, hml, hown, hts⟩ hl.1 (c_X2_add l D cA n ad ew12 _ (by omega) hr (by omega) (sp_dg z1 q) (by have := sp_dg_b z1 q; omega)) k_X2_add u_ml_RX4_48 hK hN hP (by omega) hr.1 rfl rfl rfl rfl (Nat.le_of_ble_eq_true rfl) ⟨Nat.le_of_ble_eq_true rfl, Nat.le_of_ble_eq_true rfl⟩ ⟨Nat.le_of_ble_eq_true rfl, Nat.le_of_ble_eq_true rfl⟩ dX4_figures_46 hD hS hA (fun en5 H locs hp5 hP hS => ?_)
          obtain ⟨hr, hos⟩ := hp5
          have hC := hC.spare hos hr
          have ho := ho.tr hos
          refine lv_lload_n hx hb dX4_figures_49 rfl (lv_at hl 2 rfl) ?_
          refine x_ldc2 hx hb hown (hts _ u_ko_RX4_238) (k := 10) (by decide +kernel) dX4_figures_50 ?_
          refine x_ldiv hx hb dX4_figures_53 (sp_q_r hz1 q) ?_
          refine lv_lstore_n (lv' := [(3, .long (xL (sp_q z1 (q + 1)))), (0, .ref (ad 0)), (1, .long (xL z1)), (5, .int (xI (q : Int)))]) hx hb dX4_figures_54 rfl hl (by decide) rfl (fun ls hl => ?_)
          refine x_iinc (lv' := [(5, .int (xI ((q : Int) + 1))), (3, .long (xL (sp_q z1 (q + 1)))), (0, .ref (ad 0)), (1, .long (xL z1))]) (k := 3) hx hb dX4_figures_55 hl rfl (by decide) rfl (fun ls hl => ?_)
          refine lv_goto (tgt := 12) hx hb dX4_figures_58 (by decide) ?_
          exact ih (q + 1) _ en5 _ _ (by omega) ((sp_ln_t (by omega) (by omega)).symm.trans hL) (fun t ht => by
        by_cases q1 : t = q
        · rw [q1, sp_up_s]
        · rw [sp_up_n _ _ q1]
          exact hF t (by omega)) (by omega) hC hr ho hP hS ls (lv_sub hl [2, 3, 1, 0] rfl)
        · refine lv_lload_n hx hb dX4_figures_24 rfl (lv_at hl 2 rfl) ?_
          refine lv_lconst (v := xL 0) hx hb dX4_figures_25 (by decide +kernel) ?_
          refine x_lcmp hx hb dX4_figures_26 (⟨sp_q_r hz1 q, by omega⟩) ?_
          refine x_if_eq (tgt := 61) hx hb dX4_figures_27 (by decide) (xcmp_r _ _) (fun c_27 => ?_) (fun c_27 => ?_)
          · have c_27 := xcmp_eq.mp c_27
            refine lv_lload_n hx hb dX4_figures_61 rfl (lv_at hl 1 rfl) ?_
            refine lv_lconst (v := xL 0) hx hb dX4_figures_62 (by decide +kernel) ?_
            refine x_lcmp hx hb dX4_figures_63 (⟨hz1, by omega⟩) ?_
            refine x_if_ge (tgt := 76) hx hb dX4_figures_64 (by decide) (xcmp_r _ _) (fun c_64 => ?_) (fun c_64 => ?_)
            · have c_64 := xcmp_ge.mp c_64
              refine lv_aload_n hx hb dX4_figures_76 rfl (lv_at hl 0 rfl) ?_
              refine x_get (T := TX4) (N := 6) hx hb hts uX4 hown hK hP (i := 0) (by omega) hC.1 rfl 5 (by decide) u_fl_RX4_39 rfl dX4_figures_77 ?_
              refine xm_v (i := 11) (As := []) (rest := []) ⟨hx, hb, hml, hown, hts⟩ hl.1 (c_X2_turnRound l D cA n ad ew12 _ (by omega) hr) k_X2_turnRound u_ml_RX4_108 hK hN hP (by omega) hr.1 rfl rfl rfl rfl (Nat.le_of_ble_eq_true rfl) ⟨Nat.le_of_ble_eq_true rfl, Nat.le_of_ble_eq_true rfl⟩ ⟨Nat.le_of_ble_eq_true rfl, Nat.le_of_ble_eq_true rfl⟩ dX4_figures_80 hD hS hA (fun en6 H locs hp6 hP hS => ?_)
              obtain ⟨hr, hos⟩ := hp6
              have hC := hC.spare hos hr
              have ho := ho.tr hos
              refine lv_aload_n hx hb dX4_figures_83 rfl (lv_at hl 0 rfl) ?_
              refine x_get (T := TX4) (N := 6) hx hb hts uX4 hown hK hP (i := 0) (by omega) hC.1 rfl 5 (by decide) u_fl_RX4_39 rfl dX4_figures_84 ?_
              have hE : q = sp_len z1 := by rw [← hL]; exact (sp_ln_f (by omega) (by omega)).symm
              exact xe_q hx hb hrt hlocks hP hS (r := some (ad 11)) rfl (⟨rfl, hr.to (by rw [sp_nn_p (by omega)]; exact hE) (fun t ht => by
        unfold sp_nf
        rw [if_neg (by omega), sp_nn_p (by omega), ← hE]
        exact hF _ (by omega)), ho⟩) dX4_figures_87
            · have c_64 := xcmp_lt.mp c_64
              refine lv_aload_n hx hb dX4_figures_67 rfl (lv_at hl 0 rfl) ?_
              refine x_get (T := TX4) (N := 6) hx hb hts uX4 hown hK hP (i := 0) (by omega) hC.1 rfl 5 (by decide) u_fl_RX4_39 rfl dX4_figures_68 ?_
              refine x_bipush hx hb dX4_figures_71 (by decide +kernel) ?_
              refine xm_v (i := 11) (As := [.int (xI 45)]) (rest := []) ⟨hx, hb, hml, hown, hts⟩ hl.1 (c_X2_add l D cA n ad ew12 _ (by omega) hr (by omega) 45 (by omega)) k_X2_add u_ml_RX4_48 hK hN hP (by omega) hr.1 rfl rfl rfl rfl (Nat.le_of_ble_eq_true rfl) ⟨Nat.le_of_ble_eq_true rfl, Nat.le_of_ble_eq_true rfl⟩ ⟨Nat.le_of_ble_eq_true rfl, Nat.le_of_ble_eq_true rfl⟩ dX4_figures_73 hD hS hA (fun en7 H locs hp7 hP hS => ?_)
              obtain ⟨hr, hos⟩ := hp7
              have hC := hC.spare hos hr
              have ho := ho.tr hos
              refine lv_aload_n hx hb dX4_figures_76 rfl (lv_at hl 0 rfl) ?_
              refine x_get (T := TX4) (N := 6) hx hb hts uX4 hown hK hP (i := 0) (by omega) hC.1 rfl 5 (by decide) u_fl_RX4_39 rfl dX4_figures_77 ?_
              refine xm_v (i := 11) (As := []) (rest := []) ⟨hx, hb, hml, hown, hts⟩ hl.1 (c_X2_turnRound l D cA n ad en7 _ (by omega) hr) k_X2_turnRound u_ml_RX4_108 hK hN hP (by omega) hr.1 rfl rfl rfl rfl (Nat.le_of_ble_eq_true rfl) ⟨Nat.le_of_ble_eq_true rfl, Nat.le_of_ble_eq_true rfl⟩ ⟨Nat.le_of_ble_eq_true rfl, Nat.le_of_ble_eq_true rfl⟩ dX4_figures_80 hD hS hA (fun en8 H locs hp8 hP hS => ?_)
              obtain ⟨hr, hos⟩ := hp8
              have hC := hC.spare hos hr
              have ho := ho.tr hos
              refine lv_aload_n hx hb dX4_figures_83 rfl (lv_at hl 0 rfl) ?_
              refine x_get (T := TX4) (N := 6) hx hb hts uX4 hown hK hP (i := 0) (by omega) hC.1 rfl 5 (by decide) u_fl_RX4_39 rfl dX4_figures_84 ?_
              have hE : q = sp_len z1 := by rw [← hL]; exact (sp_ln_f (by omega) (by omega)).symm
              exact xe_q hx hb hrt hlocks hP hS (r := some (ad 11)) rfl (⟨rfl, hr.to (by rw [sp_nn_n (by omega), ← hE]) (fun t ht => by
        unfold sp_nf
        rw [sp_nn_n (by omega), ← hE]
        by_cases q1 : t = 0
        · rw [if_pos ⟨by omega, q1⟩, q1, show q + 1 - 1 - 0 = q by omega, sp_up_s]
        · rw [if_neg (by omega), sp_up_n _ _ (by omega)]
          exact hF _ (by omega)), ho⟩) dX4_figures_87
          · have c_27 := xcmp_ne.mp c_27
            refine lv_aload_n hx hb dX4_figures_30 rfl (lv_at hl 0 rfl) ?_
            refine x_get (T := TX4) (N := 6) hx hb hts uX4 hown hK hP (i := 0) (by omega) hC.1 rfl 5 (by decide) u_fl_RX4_39 rfl dX4_figures_31 ?_
            refine x_bipush hx hb dX4_figures_34 (by decide +kernel) ?_
            refine lv_lload_n hx hb dX4_figures_36 rfl (lv_at hl 2 rfl) ?_
            refine x_ldc2 hx hb hown (hts _ u_ko_RX4_238) (k := 10) (by decide +kernel) dX4_figures_37 ?_
            refine x_lrem hx hb dX4_figures_40 (sp_q_r hz1 q) ?_
            refine x_l2i hx hb dX4_figures_41 ?_
            refine x_abs hx hb (hml.trans hl.1.symm) hts hown u_ml_RX4_240 (Nat.le_of_ble_eq_true rfl) (Nat.le_of_ble_eq_true rfl) (Nat.le_of_ble_eq_true rfl) (Nat.le_of_ble_eq_true rfl) (r := (if 0 ≤ (Int.tmod (sp_q z1 q) 10) then (Int.tmod (sp_q z1 q) 10) else -(Int.tmod (sp_q z1 q) 10))) (by have := sp_tm (sp_q z1 q); omega) (by omega) dX4_figures_42 ?_
            refine x_iadd hx hb dX4_figures_45 ?_
            refine x_to (sp_dg z1 q) (rfl) ?_
            refine xm_v (i := 11) (As := [.int (xI (sp_dg z1 q))]) (rest := []) ⟨hx, hb, hml, hown, hts⟩ hl.1 (c_X2_add l D cA n ad ew12 _ (by omega) hr (by omega) (sp_dg z1 q) (by have := sp_dg_b z1 q; omega)) k_X2_add u_ml_RX4_48 hK hN hP (by omega) hr.1 rfl rfl rfl rfl (Nat.le_of_ble_eq_true rfl) ⟨Nat.le_of_ble_eq_true rfl, Nat.le_of_ble_eq_true rfl⟩ ⟨Nat.le_of_ble_eq_true rfl, Nat.le_of_ble_eq_true rfl⟩ dX4_figures_46 hD hS hA (fun en9 H locs hp9 hP hS => ?_)
            obtain ⟨hr, hos⟩ := hp9
            have hC := hC.spare hos hr
            have ho := ho.tr hos
            refine lv_lload_n hx hb dX4_figures_49 rfl (lv_at hl 2 rfl) ?_
            refine x_ldc2 hx hb hown (hts _ u_ko_RX4_238) (k := 10) (by decide +kernel) dX4_figures_50 ?_
            refine x_ldiv hx hb dX4_figures_53 (sp_q_r hz1 q) ?_
            refine lv_lstore_n (lv' := [(3, .long (xL (sp_q z1 (q + 1)))), (0, .ref (ad 0)), (1, .long (xL z1)), (5, .int (xI (q : Int)))]) hx hb dX4_figures_54 rfl hl (by decide) rfl (fun ls hl => ?_)
            refine x_iinc (lv' := [(5, .int (xI ((q : Int) + 1))), (3, .long (xL (sp_q z1 (q + 1)))), (0, .ref (ad 0)), (1, .long (xL z1))]) (k := 3) hx hb dX4_figures_55 hl rfl (by decide) rfl (fun ls hl => ?_)
            refine lv_goto (tgt := 12) hx hb dX4_figures_58 (by decide) ?_
            exact ih (q + 1) _ en9 _ _ (by omega) ((sp_ln_t (by omega) (by omega)).symm.trans hL) (fun t ht => by
        by_cases q1 : t = q
        · rw [q1, sp_up_s]
        · rw [sp_up_n _ _ q1]
          exact hF t (by omega)) (by omega) hC hr ho hP hS ls (lv_sub hl [2, 3, 1, 0] rfl)
  exact L12 _ 0 f en1 _ _ (by omega) rfl (fun t ht => absurd ht (by omega)) (Nat.lt_succ_self _) hC hr ho hP hS ls (lv_sub hl [2, 3, 1, 0] rfl)

set_option maxRecDepth 20000 in
theorem c_X4_mixed (l : Launch) (w : Int64) (z1 : Int) (hz1 : -2147483648 ≤ z1 ∧ z1 ≤ 2147483647) : Met l yX4_mixed (Cond.code yX4_mixed cX4_mixed 3 (some .long) :: xU) (xrm 0 0) (va_Pc [.long w, .int (xI z1)] (fun _ => True)) (vp_Sl (fun z => z = sp_mix w z1)) 0 0 (fun _ => False) := by
  refine xmet (by decide) (Nat.le_of_ble_eq_true rfl) (fun p e s mm args below meth c ls hx hb hrt hml hown hts hlocks hname hB hl => ?_)
  have hl : lv_has ls 3 [(0, .long w), (2, .int (xI z1))] := hl
  refine x_ldc2 hx hb hown (hts _ u_ko_RX4_230) (k := 31) (by decide +kernel) dX4_mixed_0 ?_
  refine lv_lload_n hx hb dX4_mixed_3 rfl (lv_at hl 0 rfl) ?_
  refine lv_lmul hx hb dX4_mixed_4 ?_
  refine lv_iload_n hx hb dX4_mixed_5 rfl (lv_at hl 1 rfl) ?_
  refine x_i2l hx hb dX4_mixed_6 (by omega) ?_
  refine lv_ladd hx hb dX4_mixed_7 ?_
  exact xr_l hx hb hrt hlocks (rfl) dX4_mixed_8

set_option maxRecDepth 20000 in
theorem c_X4_mixedRow (l : Launch) (D : va_G) (cA : Nat → ClassId) (n : Nat) (ad : Nat → Nat) (en : Nat → va_E) {i m : Nat} {f : Nat → Int} (hi : i + 1 < n) (hr : XR cA ad en i m f) (w : Int64) (z1 z2 : Int) (h12 : 0 ≤ z1 ∧ z1 ≤ z2 ∧ z2 ≤ (m : Int)) : Met l yX4_mixedRow (Cond.code yX4_mixedRow cX4_mixedRow 8 (some .long) :: xU) (xrm 2 42) (va_Pc [.long w, .ref (ad i), .int (xI z1), .int (xI z2)] (xB D cA n ad en)) (vp_Sl (fun z => z = sp_hs f (sp_mix w (z2 - z1)) z1.toNat (z2 - z1).toNat)) 0 0 (fun _ => False) := by
  refine xmet (by decide) (Nat.le_of_ble_eq_true rfl) (fun p e s mm args below meth c ls hx hb hrt hml hown hts hlocks hname hB hl => ?_)
  obtain ⟨hP, hK, hN⟩ := hB
  have hl : lv_has ls 8 [(0, .long w), (2, .ref (ad i)), (3, .int (xI z1)), (4, .int (xI z2))] := hl
  have hm := hr.2.2.1
  refine lv_lload_n hx hb dX4_mixedRow_0 rfl (lv_at hl 0 rfl) ?_
  refine lv_iload hx hb dX4_mixedRow_1 (lv_at hl 3 rfl) ?_
  refine lv_iload_n hx hb dX4_mixedRow_3 rfl (lv_at hl 2 rfl) ?_
  refine x_isub hx hb dX4_mixedRow_4 ?_
  refine xt_l (As := [.long w, .int (xI (z2 - z1))]) (rest := []) ⟨hx, hb, hml, hown, hts⟩ hl.1 (c_X4_mixed l w (z2 - z1) (by omega)) k_X4_mixed u_ml_RX4_226 rfl rfl (Nat.le_of_ble_eq_true rfl) ⟨Nat.le_of_ble_eq_true rfl, Nat.le_of_ble_eq_true rfl⟩ ⟨Nat.le_of_ble_eq_true rfl, Nat.le_of_ble_eq_true rfl⟩ dX4_mixedRow_5 ?_
  refine lv_lstore (lv' := [(5, .long (sp_mix w (z2 - z1))), (0, .long w), (2, .ref (ad i)), (3, .int (xI z1)), (4, .int (xI z2))]) hx hb dX4_mixedRow_8 hl (by decide) rfl (fun ls hl => ?_)
  refine lv_iload_n hx hb dX4_mixedRow_10 rfl (lv_at hl 3 rfl) ?_
  refine lv_istore (lv' := [(7, .int (xI z1)), (5, .long (sp_mix w (z2 - z1))), (0, .long w), (2, .ref (ad i)), (3, .int (xI z1)), (4, .int (xI z2))]) hx hb dX4_mixedRow_11 hl (by decide) rfl (fun ls hl => ?_)
  have L13 : ∀ (nn : Nat) (a : Int) (al : Int64), (z1 ≤ a ∧ a ≤ z2) → (al = sp_hs f (sp_mix w (z2 - z1)) z1.toNat (a - z1).toNat) → ((z2 - a).toNat) < nn → ∀ ls : Array Slot, lv_has ls 8 [(2, .ref (ad i)), (3, .int (xI z1)), (4, .int (xI z2)), (5, .long al), (7, .int (xI a))] → W p l e (xrm 2 42) s mm args below meth c s.heap [] 0 0 (MQ below (vp_Sl (fun z => z = sp_hs f (sp_mix w (z2 - z1)) z1.toNat (z2 - z1).toNat)) args s 0 0 (fun _ => False)) (F0 mm 13 ls []) := by
    intro nn
    induction nn with
    | zero =>
      intro a al  ha hF hmm  ls hl
      exact absurd hmm (Nat.not_lt_zero _)
    | succ nn ih =>
      intro a al  ha hF hmm  ls hl
      refine lv_iload hx hb dX4_mixedRow_13 (lv_at hl 4 rfl) ?_
      refine lv_iload hx hb dX4_mixedRow_15 (lv_at hl 2 rfl) ?_
      refine x_icmp_ge (tgt := 39) hx hb dX4_mixedRow_17 (by decide) (by omega) (fun c_17 => ?_) (fun c_17 => ?_)
      · refine lv_lload hx hb dX4_mixedRow_39 (lv_at hl 3 rfl) ?_
        exact xr_l hx hb hrt hlocks (by rw [hF, show a = z2 by omega]) dX4_mixedRow_41
      · refine lv_lload hx hb dX4_mixedRow_20 (lv_at hl 3 rfl) ?_
        refine lv_aload_n hx hb dX4_mixedRow_22 rfl (lv_at hl 0 rfl) ?_
        refine lv_iload hx hb dX4_mixedRow_23 (lv_at hl 4 rfl) ?_
        refine xv_i (i := i) (As := [.int (xI a)]) (rest := [.long al]) ⟨hx, hb, hml, hown, hts⟩ hl.1 (c_X2_signThere l D cA n ad en (by omega) hr a (by omega)) k_X2_signThere u_ml_RX4_111 hK hN hP (by omega) hr.1 rfl rfl rfl rfl (Nat.le_of_ble_eq_true rfl) ⟨Nat.le_of_ble_eq_true rfl, Nat.le_of_ble_eq_true rfl⟩ ⟨Nat.le_of_ble_eq_true rfl, Nat.le_of_ble_eq_true rfl⟩ dX4_mixedRow_25 ?_
        refine xt_l (As := [.long al, .int (xI (f (Int.toNat a)))]) (rest := []) ⟨hx, hb, hml, hown, hts⟩ hl.1 (c_X4_mixed l al (f (Int.toNat a)) (by have := hr.2.2.2 a.toNat (by omega); omega)) k_X4_mixed u_ml_RX4_226 rfl rfl (Nat.le_of_ble_eq_true rfl) ⟨Nat.le_of_ble_eq_true rfl, Nat.le_of_ble_eq_true rfl⟩ ⟨Nat.le_of_ble_eq_true rfl, Nat.le_of_ble_eq_true rfl⟩ dX4_mixedRow_28 ?_
        refine lv_lstore (lv' := [(5, .long (sp_mix al (f (Int.toNat a)))), (2, .ref (ad i)), (3, .int (xI z1)), (4, .int (xI z2)), (7, .int (xI a))]) hx hb dX4_mixedRow_31 hl (by decide) rfl (fun ls hl => ?_)
        refine x_iinc (lv' := [(7, .int (xI (a + 1))), (5, .long (sp_mix al (f (Int.toNat a)))), (2, .ref (ad i)), (3, .int (xI z1)), (4, .int (xI z2))]) (k := 4) hx hb dX4_mixedRow_33 hl rfl (by decide) rfl (fun ls hl => ?_)
        refine lv_goto (tgt := 13) hx hb dX4_mixedRow_36 (by decide) ?_
        exact ih (a + 1) _ (by omega) (by rw [hF, show (a + 1 - z1).toNat = (a - z1).toNat + 1 by omega, sp_hs, show z1.toNat + (a - z1).toNat = a.toNat by omega]) (by omega)  ls (lv_sub hl [2, 3, 4, 1, 0] rfl)
  exact L13 _ z1 (sp_mix w (z2 - z1)) (by omega) (by rw [show (z1 - z1).toNat = 0 by omega]; rfl) (Nat.lt_succ_self _)  ls (lv_sub hl [3, 4, 5, 1, 0] rfl)

set_option maxRecDepth 20000 in
theorem c_X4_isSign (l : Launch) (z1 : Int) (hz1 : -2147483648 ≤ z1 ∧ z1 ≤ 2147483647) : Met l yX4_isSign (Cond.code yX4_isSign cX4_isSign 1 (some .boolean) :: xU) (xrm 0 0) (va_Pc [.int (xI z1)] (fun _ => True)) (vp_Si (fun z => z = xb (0 ≤ z1 ∧ z1 < 256))) 0 0 (fun _ => False) := by
  refine xmet (by decide) (Nat.le_of_ble_eq_true rfl) (fun p e s mm args below meth c ls hx hb hrt hml hown hts hlocks hname hB hl => ?_)
  have hl : lv_has ls 1 [(0, .int (xI z1))] := hl
  refine lv_iload_n hx hb dX4_isSign_0 rfl (lv_at hl 0 rfl) ?_
  refine x_if_lt (tgt := 15) hx hb dX4_isSign_1 (by decide) (by omega) (fun c_1 => ?_) (fun c_1 => ?_)
  · refine x_iconst hx hb dX4_isSign_15 ?_
    exact xr_z hx hb hrt hlocks (xb_0 (by omega)) dX4_isSign_16
  · refine lv_iload_n hx hb dX4_isSign_4 rfl (lv_at hl 0 rfl) ?_
    refine x_sipush hx hb dX4_isSign_5 (by decide +kernel) ?_
    refine x_icmp_ge (tgt := 15) hx hb dX4_isSign_8 (by decide) (by omega) (fun c_8 => ?_) (fun c_8 => ?_)
    · refine x_iconst hx hb dX4_isSign_15 ?_
      exact xr_z hx hb hrt hlocks (xb_0 (by omega)) dX4_isSign_16
    · refine x_iconst hx hb dX4_isSign_11 ?_
      refine lv_goto (tgt := 16) hx hb dX4_isSign_12 (by decide) ?_
      exact xr_z hx hb hrt hlocks (xb_1 (by omega)) dX4_isSign_16

set_option maxRecDepth 20000 in
theorem c_X4_isSeparator (l : Launch) (z1 : Int) (hz1 : -2147483648 ≤ z1 ∧ z1 ≤ 2147483647) : Met l yX4_isSeparator (Cond.code yX4_isSeparator cX4_isSeparator 2 (some .boolean) :: xU) (xrm 1 20) (va_Pc [.int (xI z1)] xZ) (vp_Si (fun z => z = xb (sp_sepok z1))) 0 0 (fun _ => False) := by
  refine xmet (by decide) (Nat.le_of_ble_eq_true rfl) (fun p e s mm args below meth c ls hx hb hrt hml hown hts hlocks hname hB hl => ?_)
  have hl : lv_has ls 2 [(0, .int (xI z1))] := hl
  have hown : s.vm.findClass RX4 = some mm.cls := hown
  obtain ⟨tN, hZ1, hZ2⟩ := hB
  refine x_iconst hx hb dX4_isSeparator_0 ?_
  refine lv_istore_n (lv' := [(1, .int (xI 0)), (0, .int (xI z1))]) hx hb dX4_isSeparator_1 rfl hl (by decide) rfl (fun ls hl => ?_)
  have L2 : ∀ (nn : Nat) (a : Int), (0 ≤ a ∧ a ≤ 12) → (∀ j : Nat, (j : Int) < a → ¬ sp_nosl j = z1) → ((12 - a).toNat) < nn → ∀ ls : Array Slot, lv_has ls 2 [(0, .int (xI z1)), (1, .int (xI a))] → W p l e (xrm 1 20) s mm args below meth c s.heap [] 0 0 (MQ below (vp_Si (fun z => z = xb (sp_sepok z1))) args s 0 0 (fun _ => False)) (F0 mm 2 ls []) := by
    intro nn
    induction nn with
    | zero =>
      intro a  ha hF hmm  ls hl
      exact absurd hmm (Nat.not_lt_zero _)
    | succ nn ih =>
      intro a  ha hF hmm  ls hl
      refine lv_iload_n hx hb dX4_isSeparator_2 rfl (lv_at hl 1 rfl) ?_
      refine va_gets hx hb hZ1 va_S.rf hown (hts _ u_fl_RX4_232) (fun _ h => h) dX4_isSeparator_3 ?_
      refine va_tlen hx hb hZ2 va_S.rf (v := xI 12) (by decide +kernel) dX4_isSeparator_6 ?_
      refine x_icmp_ge (tgt := 27) hx hb dX4_isSeparator_7 (by decide) (by omega) (fun c_7 => ?_) (fun c_7 => ?_)
      · refine lv_iload_n hx hb dX4_isSeparator_27 rfl (lv_at hl 0 rfl) ?_
        refine xt_i (As := [.int (xI z1)]) (rest := []) ⟨hx, hb, hml, hown, hts⟩ hl.1 (c_X4_isSign l z1 (by omega)) k_X4_isSign u_ml_RX4_56 rfl rfl (Nat.le_of_ble_eq_true rfl) ⟨Nat.le_of_ble_eq_true rfl, Nat.le_of_ble_eq_true rfl⟩ ⟨Nat.le_of_ble_eq_true rfl, Nat.le_of_ble_eq_true rfl⟩ dX4_isSeparator_28 ?_
        exact xr_z hx hb hrt hlocks (xb_iff ⟨fun q => ⟨q, fun j hj => hF j (by omega)⟩, fun q => q.1⟩) dX4_isSeparator_31
      · refine va_gets hx hb hZ1 va_S.rf hown (hts _ u_fl_RX4_232) (fun _ h => h) dX4_isSeparator_10 ?_
        refine lv_iload_n hx hb dX4_isSeparator_13 rfl (lv_at hl 1 rfl) ?_
        refine va_ti hx hb hZ2 va_S.rf (xI_in (by omega)) (v := .int (xI (sp_nosl (Int.toNat a)))) (by rw [xI_clamp (by omega)]) dX4_isSeparator_14 ?_
        refine lv_iload_n hx hb dX4_isSeparator_15 rfl (lv_at hl 0 rfl) ?_
        refine x_icmp_ne (tgt := 21) hx hb dX4_isSeparator_16 (by decide) (by have := sp_nosl_b (Int.toNat a); omega) (fun c_16 => ?_) (fun c_16 => ?_)
        · refine x_iinc (lv' := [(1, .int (xI (a + 1))), (0, .int (xI z1))]) (k := 1) hx hb dX4_isSeparator_21 hl rfl (by decide) rfl (fun ls hl => ?_)
          refine lv_goto (tgt := 2) hx hb dX4_isSeparator_24 (by decide) ?_
          exact ih (a + 1) (by omega) (fun j hj => by
        by_cases q : (j : Int) = a
        · rw [show j = a.toNat by omega]; exact c_16
        · exact hF j (by omega)) (by omega)  ls (lv_sub hl [1, 0] rfl)
        · refine x_iconst hx hb dX4_isSeparator_19 ?_
          exact xr_z hx hb hrt hlocks (xb_0 (fun q => q.2 a.toNat (by omega) c_16)) dX4_isSeparator_20
  exact L2 _ 0 (by omega) (fun j hj => absurd hj (by omega)) (Nat.lt_succ_self _)  ls (lv_sub hl [1, 0] rfl)
end
