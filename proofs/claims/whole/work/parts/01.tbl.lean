-- ===== PART A: goes FIRST, ahead of the names: the tables' words, and 'selects' of the private methods out of them =====
/-- a private method of a class that the tables say can be made, by its rows of tables_1 -/
def lw_okq (q : MethodName × Nat) : Prop := (q.1.cls ≠ "java/lang/invoke/MethodHandle" ∧ q.1.cls ≠ "java/lang/invoke/VarHandle") ∧ Cond.instantiable q.1.cls q.2 ∈ tables_1 ∧ Cond.privateMethod q.1 ∈ tables_1 ∧ Cond.instanceMethod q.1 ∈ tables_1
theorem lw_p0 : lw_okq (⟨"java/lang/Throwable", "fillInStackTrace", "(I)Ljava/lang/Throwable;"⟩, 6) := ⟨⟨by decide +kernel, by decide +kernel⟩, List.mem_of_getElem? (i := 196) (by decide +kernel), List.mem_of_getElem? (i := 194) (by decide +kernel), List.mem_of_getElem? (i := 195) (by decide +kernel)⟩
theorem lw_p1 : lw_okq (⟨"DotSheet$Paper", "change", "(IJ)V"⟩, 6) := ⟨⟨by decide +kernel, by decide +kernel⟩, List.mem_of_getElem? (i := 28) (by decide +kernel), List.mem_of_getElem? (i := 289) (by decide +kernel), List.mem_of_getElem? (i := 290) (by decide +kernel)⟩
theorem lw_p2 : lw_okq (⟨"DotSheet$Stroke", "widenByEnd", "(II)V"⟩, 11) := ⟨⟨by decide +kernel, by decide +kernel⟩, List.mem_of_getElem? (i := 301) (by decide +kernel), List.mem_of_getElem? (i := 354) (by decide +kernel), List.mem_of_getElem? (i := 355) (by decide +kernel)⟩
theorem lw_p3 : lw_okq (⟨"DotSheet$Stroke", "widen", "(II)V"⟩, 11) := ⟨⟨by decide +kernel, by decide +kernel⟩, List.mem_of_getElem? (i := 301) (by decide +kernel), List.mem_of_getElem? (i := 358) (by decide +kernel), List.mem_of_getElem? (i := 359) (by decide +kernel)⟩
theorem lw_p4 : lw_okq (⟨"DotSheet$Stroke", "widenBySide", "(I)V"⟩, 11) := ⟨⟨by decide +kernel, by decide +kernel⟩, List.mem_of_getElem? (i := 301) (by decide +kernel), List.mem_of_getElem? (i := 364) (by decide +kernel), List.mem_of_getElem? (i := 365) (by decide +kernel)⟩
theorem lw_p5 : lw_okq (⟨"DotSheet", "drawEllipseRow", "(IIIII)I"⟩, 4) := ⟨⟨by decide +kernel, by decide +kernel⟩, List.mem_of_getElem? (i := 20) (by decide +kernel), List.mem_of_getElem? (i := 403) (by decide +kernel), List.mem_of_getElem? (i := 404) (by decide +kernel)⟩
theorem lw_p6 : lw_okq (⟨"DotSheet$Steps", "place", "(IIII)V"⟩, 8) := ⟨⟨by decide +kernel, by decide +kernel⟩, List.mem_of_getElem? (i := 57) (by decide +kernel), List.mem_of_getElem? (i := 482) (by decide +kernel), List.mem_of_getElem? (i := 483) (by decide +kernel)⟩
theorem lw_p7 : lw_okq (⟨"DotSheet$Steps", "bound", "(IIII)V"⟩, 8) := ⟨⟨by decide +kernel, by decide +kernel⟩, List.mem_of_getElem? (i := 57) (by decide +kernel), List.mem_of_getElem? (i := 486) (by decide +kernel), List.mem_of_getElem? (i := 487) (by decide +kernel)⟩
theorem lw_p8 : lw_okq (⟨"DotSheet", "drawCell", "(LDotSheet$Font;IIII)I"⟩, 4) := ⟨⟨by decide +kernel, by decide +kernel⟩, List.mem_of_getElem? (i := 20) (by decide +kernel), List.mem_of_getElem? (i := 498) (by decide +kernel), List.mem_of_getElem? (i := 499) (by decide +kernel)⟩
theorem lw_p9 : lw_okq (⟨"DotSheet$Paper", "takeBlock", "(II)V"⟩, 6) := ⟨⟨by decide +kernel, by decide +kernel⟩, List.mem_of_getElem? (i := 28) (by decide +kernel), List.mem_of_getElem? (i := 566) (by decide +kernel), List.mem_of_getElem? (i := 567) (by decide +kernel)⟩
theorem lw_p10 : lw_okq (⟨"DotSheet$Paper", "transposeBlock", "()V"⟩, 6) := ⟨⟨by decide +kernel, by decide +kernel⟩, List.mem_of_getElem? (i := 28) (by decide +kernel), List.mem_of_getElem? (i := 570) (by decide +kernel), List.mem_of_getElem? (i := 571) (by decide +kernel)⟩
theorem lw_p11 : lw_okq (⟨"DotSheet$Paper", "putBlock", "(II)V"⟩, 6) := ⟨⟨by decide +kernel, by decide +kernel⟩, List.mem_of_getElem? (i := 28) (by decide +kernel), List.mem_of_getElem? (i := 575) (by decide +kernel), List.mem_of_getElem? (i := 576) (by decide +kernel)⟩
theorem lw_p12 : lw_okq (⟨"DotSheet$Paper", "allOfColumn", "(I)J"⟩, 6) := ⟨⟨by decide +kernel, by decide +kernel⟩, List.mem_of_getElem? (i := 28) (by decide +kernel), List.mem_of_getElem? (i := 590) (by decide +kernel), List.mem_of_getElem? (i := 591) (by decide +kernel)⟩
theorem lw_p13 : lw_okq (⟨"DotSheet$Paper", "hasDarkInRow", "(I)Z"⟩, 6) := ⟨⟨by decide +kernel, by decide +kernel⟩, List.mem_of_getElem? (i := 28) (by decide +kernel), List.mem_of_getElem? (i := 605) (by decide +kernel), List.mem_of_getElem? (i := 606) (by decide +kernel)⟩
theorem lw_p14 : lw_okq (⟨"DotSheet$Paper", "runLength", "(IIIIII)I"⟩, 6) := ⟨⟨by decide +kernel, by decide +kernel⟩, List.mem_of_getElem? (i := 28) (by decide +kernel), List.mem_of_getElem? (i := 669) (by decide +kernel), List.mem_of_getElem? (i := 670) (by decide +kernel)⟩
theorem lw_p15 : lw_okq (⟨"DotSheetModel", "at", "(IIIII)V"⟩, 18) := ⟨⟨by decide +kernel, by decide +kernel⟩, List.mem_of_getElem? (i := 678) (by decide +kernel), List.mem_of_getElem? (i := 775) (by decide +kernel), List.mem_of_getElem? (i := 776) (by decide +kernel)⟩
def lw_privs_1 : List (MethodName × Nat) := [(⟨"java/lang/Throwable", "fillInStackTrace", "(I)Ljava/lang/Throwable;"⟩, 6), (⟨"DotSheet$Paper", "change", "(IJ)V"⟩, 6), (⟨"DotSheet$Stroke", "widenByEnd", "(II)V"⟩, 11), (⟨"DotSheet$Stroke", "widen", "(II)V"⟩, 11), (⟨"DotSheet$Stroke", "widenBySide", "(I)V"⟩, 11), (⟨"DotSheet", "drawEllipseRow", "(IIIII)I"⟩, 4), (⟨"DotSheet$Steps", "place", "(IIII)V"⟩, 8), (⟨"DotSheet$Steps", "bound", "(IIII)V"⟩, 8), (⟨"DotSheet", "drawCell", "(LDotSheet$Font;IIII)I"⟩, 4), (⟨"DotSheet$Paper", "takeBlock", "(II)V"⟩, 6), (⟨"DotSheet$Paper", "transposeBlock", "()V"⟩, 6), (⟨"DotSheet$Paper", "putBlock", "(II)V"⟩, 6), (⟨"DotSheet$Paper", "allOfColumn", "(I)J"⟩, 6), (⟨"DotSheet$Paper", "hasDarkInRow", "(I)Z"⟩, 6), (⟨"DotSheet$Paper", "runLength", "(IIIIII)I"⟩, 6), (⟨"DotSheetModel", "at", "(IIIII)V"⟩, 18)]
theorem lw_r1 : ∀ q ∈ lw_privs_1, lw_okq q := List.forall_mem_cons.mpr ⟨lw_p0, List.forall_mem_cons.mpr ⟨lw_p1, List.forall_mem_cons.mpr ⟨lw_p2, List.forall_mem_cons.mpr ⟨lw_p3, List.forall_mem_cons.mpr ⟨lw_p4, List.forall_mem_cons.mpr ⟨lw_p5, List.forall_mem_cons.mpr ⟨lw_p6, List.forall_mem_cons.mpr ⟨lw_p7, List.forall_mem_cons.mpr ⟨lw_p8, List.forall_mem_cons.mpr ⟨lw_p9, List.forall_mem_cons.mpr ⟨lw_p10, List.forall_mem_cons.mpr ⟨lw_p11, List.forall_mem_cons.mpr ⟨lw_p12, List.forall_mem_cons.mpr ⟨lw_p13, List.forall_mem_cons.mpr ⟨lw_p14, List.forall_mem_cons.mpr ⟨lw_p15, fun _ h => absurd h List.not_mem_nil⟩⟩⟩⟩⟩⟩⟩⟩⟩⟩⟩⟩⟩⟩⟩⟩
theorem lw_p16 : lw_okq (⟨"DotSheetModel", "draw", "(I)I"⟩, 18) := ⟨⟨by decide +kernel, by decide +kernel⟩, List.mem_of_getElem? (i := 678) (by decide +kernel), List.mem_of_getElem? (i := 779) (by decide +kernel), List.mem_of_getElem? (i := 780) (by decide +kernel)⟩
theorem lw_p17 : lw_okq (⟨"DotSheetModel", "belongs", "(III)Z"⟩, 18) := ⟨⟨by decide +kernel, by decide +kernel⟩, List.mem_of_getElem? (i := 678) (by decide +kernel), List.mem_of_getElem? (i := 783) (by decide +kernel), List.mem_of_getElem? (i := 784) (by decide +kernel)⟩
theorem lw_p18 : lw_okq (⟨"DotSheetModel", "inFrame", "(II)Z"⟩, 18) := ⟨⟨by decide +kernel, by decide +kernel⟩, List.mem_of_getElem? (i := 678) (by decide +kernel), List.mem_of_getElem? (i := 787) (by decide +kernel), List.mem_of_getElem? (i := 788) (by decide +kernel)⟩
theorem lw_p19 : lw_okq (⟨"DotSheetModel", "inLine", "(II)Z"⟩, 18) := ⟨⟨by decide +kernel, by decide +kernel⟩, List.mem_of_getElem? (i := 678) (by decide +kernel), List.mem_of_getElem? (i := 791) (by decide +kernel), List.mem_of_getElem? (i := 792) (by decide +kernel)⟩
theorem lw_p20 : lw_okq (⟨"DotSheetModel", "inEllipse", "(II)Z"⟩, 18) := ⟨⟨by decide +kernel, by decide +kernel⟩, List.mem_of_getElem? (i := 678) (by decide +kernel), List.mem_of_getElem? (i := 796) (by decide +kernel), List.mem_of_getElem? (i := 797) (by decide +kernel)⟩
theorem lw_p21 : lw_okq (⟨"DotSheetModel", "inPicture", "(II)Z"⟩, 18) := ⟨⟨by decide +kernel, by decide +kernel⟩, List.mem_of_getElem? (i := 678) (by decide +kernel), List.mem_of_getElem? (i := 804) (by decide +kernel), List.mem_of_getElem? (i := 805) (by decide +kernel)⟩
theorem lw_p22 : lw_okq (⟨"DotSheetModel", "bit", "(I)Z"⟩, 18) := ⟨⟨by decide +kernel, by decide +kernel⟩, List.mem_of_getElem? (i := 678) (by decide +kernel), List.mem_of_getElem? (i := 808) (by decide +kernel), List.mem_of_getElem? (i := 809) (by decide +kernel)⟩
theorem lw_p23 : lw_okq (⟨"DotSheetModel", "along", "(II)I"⟩, 18) := ⟨⟨by decide +kernel, by decide +kernel⟩, List.mem_of_getElem? (i := 678) (by decide +kernel), List.mem_of_getElem? (i := 812) (by decide +kernel), List.mem_of_getElem? (i := 813) (by decide +kernel)⟩
theorem lw_p24 : lw_okq (⟨"DotSheetModel", "across", "(II)I"⟩, 18) := ⟨⟨by decide +kernel, by decide +kernel⟩, List.mem_of_getElem? (i := 678) (by decide +kernel), List.mem_of_getElem? (i := 816) (by decide +kernel), List.mem_of_getElem? (i := 817) (by decide +kernel)⟩
theorem lw_p25 : lw_okq (⟨"DotSheetModel", "inText", "(II)Z"⟩, 18) := ⟨⟨by decide +kernel, by decide +kernel⟩, List.mem_of_getElem? (i := 678) (by decide +kernel), List.mem_of_getElem? (i := 820) (by decide +kernel), List.mem_of_getElem? (i := 821) (by decide +kernel)⟩
theorem lw_p26 : lw_okq (⟨"DotSheetModel", "inSquare", "(II)Z"⟩, 18) := ⟨⟨by decide +kernel, by decide +kernel⟩, List.mem_of_getElem? (i := 678) (by decide +kernel), List.mem_of_getElem? (i := 824) (by decide +kernel), List.mem_of_getElem? (i := 825) (by decide +kernel)⟩
theorem lw_p27 : lw_okq (⟨"DotSheetModel", "isDark", "(II)Z"⟩, 18) := ⟨⟨by decide +kernel, by decide +kernel⟩, List.mem_of_getElem? (i := 678) (by decide +kernel), List.mem_of_getElem? (i := 828) (by decide +kernel), List.mem_of_getElem? (i := 829) (by decide +kernel)⟩
theorem lw_p28 : lw_okq (⟨"DotSheetModel", "isOn", "(II)Z"⟩, 18) := ⟨⟨by decide +kernel, by decide +kernel⟩, List.mem_of_getElem? (i := 678) (by decide +kernel), List.mem_of_getElem? (i := 832) (by decide +kernel), List.mem_of_getElem? (i := 833) (by decide +kernel)⟩
theorem lw_p29 : lw_okq (⟨"DotSheetModel", "other", "(II)V"⟩, 18) := ⟨⟨by decide +kernel, by decide +kernel⟩, List.mem_of_getElem? (i := 678) (by decide +kernel), List.mem_of_getElem? (i := 836) (by decide +kernel), List.mem_of_getElem? (i := 837) (by decide +kernel)⟩
theorem lw_p30 : lw_okq (⟨"DotSheetModel", "turnOnce", "()V"⟩, 18) := ⟨⟨by decide +kernel, by decide +kernel⟩, List.mem_of_getElem? (i := 678) (by decide +kernel), List.mem_of_getElem? (i := 876) (by decide +kernel), List.mem_of_getElem? (i := 877) (by decide +kernel)⟩
def lw_privs_2 : List (MethodName × Nat) := [(⟨"DotSheetModel", "draw", "(I)I"⟩, 18), (⟨"DotSheetModel", "belongs", "(III)Z"⟩, 18), (⟨"DotSheetModel", "inFrame", "(II)Z"⟩, 18), (⟨"DotSheetModel", "inLine", "(II)Z"⟩, 18), (⟨"DotSheetModel", "inEllipse", "(II)Z"⟩, 18), (⟨"DotSheetModel", "inPicture", "(II)Z"⟩, 18), (⟨"DotSheetModel", "bit", "(I)Z"⟩, 18), (⟨"DotSheetModel", "along", "(II)I"⟩, 18), (⟨"DotSheetModel", "across", "(II)I"⟩, 18), (⟨"DotSheetModel", "inText", "(II)Z"⟩, 18), (⟨"DotSheetModel", "inSquare", "(II)Z"⟩, 18), (⟨"DotSheetModel", "isDark", "(II)Z"⟩, 18), (⟨"DotSheetModel", "isOn", "(II)Z"⟩, 18), (⟨"DotSheetModel", "other", "(II)V"⟩, 18), (⟨"DotSheetModel", "turnOnce", "()V"⟩, 18)]
theorem lw_r2 : ∀ q ∈ lw_privs_2, lw_okq q := List.forall_mem_cons.mpr ⟨lw_p16, List.forall_mem_cons.mpr ⟨lw_p17, List.forall_mem_cons.mpr ⟨lw_p18, List.forall_mem_cons.mpr ⟨lw_p19, List.forall_mem_cons.mpr ⟨lw_p20, List.forall_mem_cons.mpr ⟨lw_p21, List.forall_mem_cons.mpr ⟨lw_p22, List.forall_mem_cons.mpr ⟨lw_p23, List.forall_mem_cons.mpr ⟨lw_p24, List.forall_mem_cons.mpr ⟨lw_p25, List.forall_mem_cons.mpr ⟨lw_p26, List.forall_mem_cons.mpr ⟨lw_p27, List.forall_mem_cons.mpr ⟨lw_p28, List.forall_mem_cons.mpr ⟨lw_p29, List.forall_mem_cons.mpr ⟨lw_p30, fun _ h => absurd h List.not_mem_nil⟩⟩⟩⟩⟩⟩⟩⟩⟩⟩⟩⟩⟩⟩⟩
def lw_privs : List (MethodName × Nat) := lw_privs_1 ++ (lw_privs_2)
def lw_tbl : List Cond := k2_sels lw_privs ++ tables_1
theorem lw_privs_ok : ∀ q ∈ lw_privs, lw_okq q := by
  show ∀ q ∈ lw_privs_1 ++ (lw_privs_2), lw_okq q
  exact List.forall_mem_append.mpr ⟨lw_r1, lw_r2⟩
/-! the good words of the tables, and each of them by its place -/
def gT : List Cond := lw_tbl.filter goodWord
theorem gT_of {w : Cond} (h : w ∈ lw_tbl) (g : goodWord w = true) : w ∈ gT := List.mem_filter.mpr ⟨h, g⟩
theorem gT_1 {w : Cond} (h : w ∈ tables_1_1) (g : goodWord w = true) : w ∈ gT := gT_of (List.mem_append_right _ (List.mem_append_left _ h)) g
theorem gT_2 {w : Cond} (h : w ∈ tables_1_2) (g : goodWord w = true) : w ∈ gT := gT_of (List.mem_append_right _ (List.mem_append_right _ (List.mem_append_left _ h))) g
theorem gT_3 {w : Cond} (h : w ∈ tables_1_3) (g : goodWord w = true) : w ∈ gT := gT_of (List.mem_append_right _ (List.mem_append_right _ (List.mem_append_right _ (List.mem_append_left _ h)))) g
theorem gT_4 {w : Cond} (h : w ∈ tables_1_4) (g : goodWord w = true) : w ∈ gT := gT_of (List.mem_append_right _ (List.mem_append_right _ (List.mem_append_right _ (List.mem_append_right _ h)))) g
theorem gT_p {y : MethodName} {n : Nat} (i : Nat) (h : lw_privs[i]? = some (y, n)) : Cond.selects y.cls y y ∈ gT := gT_of (List.mem_append_left _ (List.mem_map.mpr ⟨(y, n), List.mem_of_getElem? h, rfl⟩)) rfl
theorem gT_good : GoodIn gT gT := fun w h => ⟨h, good_of_word (List.mem_filter.mp h).2⟩
theorem t_0 : (Cond.initialized "DotSheetLaw") ∈ gT := gT_1 (List.mem_of_getElem? (i := 0) rfl) rfl
theorem t_1 : (Cond.initialized "DotSheet") ∈ gT := gT_1 (List.mem_of_getElem? (i := 1) rfl) rfl
theorem t_2 : (Cond.initialized "DotSheet$Paper") ∈ gT := gT_1 (List.mem_of_getElem? (i := 2) rfl) rfl
theorem t_3 : (Cond.initialized "DotSheet$Steps") ∈ gT := gT_1 (List.mem_of_getElem? (i := 3) rfl) rfl
theorem t_4 : (Cond.initialized "DotSheet$Draft") ∈ gT := gT_1 (List.mem_of_getElem? (i := 4) rfl) rfl
theorem t_5 : (Cond.initialized "DotSheet$Font") ∈ gT := gT_1 (List.mem_of_getElem? (i := 5) rfl) rfl
theorem t_6 : (Cond.initialized "DotSheetModel") ∈ gT := gT_1 (List.mem_of_getElem? (i := 6) rfl) rfl
theorem t_7 : (Cond.initialized "java/lang/Throwable") ∈ gT := gT_1 (List.mem_of_getElem? (i := 7) rfl) rfl
theorem t_8 : (Cond.initialized "java/lang/Exception") ∈ gT := gT_1 (List.mem_of_getElem? (i := 8) rfl) rfl
theorem t_9 : (Cond.initialized "java/lang/RuntimeException") ∈ gT := gT_1 (List.mem_of_getElem? (i := 9) rfl) rfl
theorem t_10 : (Cond.initialized "java/lang/IllegalArgumentException") ∈ gT := gT_1 (List.mem_of_getElem? (i := 10) rfl) rfl
theorem t_11 : (Cond.initialized "java/util/Arrays") ∈ gT := gT_1 (List.mem_of_getElem? (i := 11) rfl) rfl
theorem t_12 : (Cond.initialized "java/lang/Math") ∈ gT := gT_1 (List.mem_of_getElem? (i := 12) rfl) rfl
theorem t_13 : (Cond.initialized "DotSheet$Stroke") ∈ gT := gT_1 (List.mem_of_getElem? (i := 13) rfl) rfl
theorem t_14 : (Cond.initialized "DotSheet$Reckoning") ∈ gT := gT_1 (List.mem_of_getElem? (i := 14) rfl) rfl
theorem t_15 : (Cond.initialized "java/lang/IndexOutOfBoundsException") ∈ gT := gT_1 (List.mem_of_getElem? (i := 15) rfl) rfl
theorem t_16 : (Cond.initialized "java/lang/IllegalStateException") ∈ gT := gT_1 (List.mem_of_getElem? (i := 16) rfl) rfl
theorem t_17 : (Cond.initialized "java/lang/Long") ∈ gT := gT_1 (List.mem_of_getElem? (i := 17) rfl) rfl
theorem t_18 : (Cond.initialized "java/lang/Integer") ∈ gT := gT_1 (List.mem_of_getElem? (i := 18) rfl) rfl
theorem t_19 : (Cond.classLink "DotSheetLaw" (8 : Nat) "DotSheet") ∈ gT := gT_1 (List.mem_of_getElem? (i := 19) rfl) rfl
theorem t_20 : (Cond.instantiable "DotSheet" (4 : Nat)) ∈ gT := gT_1 (List.mem_of_getElem? (i := 20) rfl) rfl
theorem t_21 : (Cond.methodLink "DotSheetLaw" (76 : Nat) ({ cls := "DotSheet", name := "<init>", desc := "()V" } : MethodName)) ∈ gT := gT_1 (List.mem_of_getElem? (i := 21) rfl) rfl
theorem t_22 : (Cond.instanceMethod ({ cls := "DotSheet", name := "<init>", desc := "()V" } : MethodName)) ∈ gT := gT_1 (List.mem_of_getElem? (i := 22) rfl) rfl
theorem t_23 : (Cond.code ({ cls := "DotSheet", name := "<init>", desc := "()V" } : MethodName) prog_1_method_1_code (2 : Nat) (Option.none : Option FieldType)) ∈ gT := gT_1 (List.mem_of_getElem? (i := 23) rfl) rfl
theorem t_24 : (Cond.methodLink "DotSheet" (1 : Nat) ({ cls := "java/lang/Object", name := "<init>", desc := "()V" } : MethodName)) ∈ gT := gT_1 (List.mem_of_getElem? (i := 24) rfl) rfl
theorem t_25 : (Cond.instanceMethod ({ cls := "java/lang/Object", name := "<init>", desc := "()V" } : MethodName)) ∈ gT := gT_1 (List.mem_of_getElem? (i := 25) rfl) rfl
theorem t_26 : (Cond.code ({ cls := "java/lang/Object", name := "<init>", desc := "()V" } : MethodName) object_method_1_code (1 : Nat) (Option.none : Option FieldType)) ∈ gT := gT_1 (List.mem_of_getElem? (i := 26) rfl) rfl
theorem t_27 : (Cond.classLink "DotSheet" (7 : Nat) "DotSheet$Paper") ∈ gT := gT_1 (List.mem_of_getElem? (i := 27) rfl) rfl
theorem t_28 : (Cond.instantiable "DotSheet$Paper" (6 : Nat)) ∈ gT := gT_1 (List.mem_of_getElem? (i := 28) rfl) rfl
theorem b_29 : (Cond.methodLinkNest "DotSheet" (9 : Nat) ({ cls := "DotSheet$Paper", name := "<init>", desc := "()V" } : MethodName) "DotSheet") ∈ lw_tbl := List.mem_append_right _ (List.mem_append_left _ (List.mem_of_getElem? (i := 29) rfl))
theorem t_30 : (Cond.instanceMethod ({ cls := "DotSheet$Paper", name := "<init>", desc := "()V" } : MethodName)) ∈ gT := gT_1 (List.mem_of_getElem? (i := 30) rfl) rfl
theorem t_31 : (Cond.code ({ cls := "DotSheet$Paper", name := "<init>", desc := "()V" } : MethodName) prog_4_method_1_code (1 : Nat) (Option.none : Option FieldType)) ∈ gT := gT_1 (List.mem_of_getElem? (i := 31) rfl) rfl
theorem t_32 : (Cond.methodLink "DotSheet$Paper" (5 : Nat) ({ cls := "java/lang/Object", name := "<init>", desc := "()V" } : MethodName)) ∈ gT := gT_1 (List.mem_of_getElem? (i := 32) rfl) rfl
theorem t_33 : (Cond.fieldLink "DotSheet$Paper" (11 : Nat) "DotSheet$Paper" "width" "I") ∈ gT := gT_1 (List.mem_of_getElem? (i := 33) rfl) rfl
theorem t_34 : (Cond.fieldLink "DotSheet" (180 : Nat) "DotSheet$Paper" "width" "I") ∈ gT := gT_1 (List.mem_of_getElem? (i := 34) rfl) rfl
theorem t_35 : (Cond.fieldLink "DotSheet$Paper" (15 : Nat) "DotSheet$Paper" "height" "I") ∈ gT := gT_1 (List.mem_of_getElem? (i := 35) rfl) rfl
theorem t_36 : (Cond.fieldLink "DotSheet" (76 : Nat) "DotSheet$Paper" "height" "I") ∈ gT := gT_1 (List.mem_of_getElem? (i := 36) rfl) rfl
theorem t_37 : (Cond.fieldLink "DotSheet$Paper" (18 : Nat) "DotSheet$Paper" "manner" "I") ∈ gT := gT_1 (List.mem_of_getElem? (i := 37) rfl) rfl
theorem t_38 : (Cond.fieldLink "DotSheet" (51 : Nat) "DotSheet$Paper" "manner" "I") ∈ gT := gT_1 (List.mem_of_getElem? (i := 38) rfl) rfl
theorem t_39 : (Cond.fieldLink "DotSheet$Paper" (21 : Nat) "DotSheet$Paper" "words" "[J") ∈ gT := gT_1 (List.mem_of_getElem? (i := 39) rfl) rfl
theorem t_40 : (Cond.fieldLink "DotSheet$Paper" (25 : Nat) "DotSheet$Paper" "spare" "[J") ∈ gT := gT_1 (List.mem_of_getElem? (i := 40) rfl) rfl
theorem t_41 : (Cond.fieldLink "DotSheet$Paper" (28 : Nat) "DotSheet$Paper" "block" "[J") ∈ gT := gT_1 (List.mem_of_getElem? (i := 41) rfl) rfl
theorem t_42 : (Cond.lays "DotSheet$Paper" "DotSheet$Paper" "width" "I") ∈ gT := gT_1 (List.mem_of_getElem? (i := 42) rfl) rfl
theorem t_43 : (Cond.soleField "DotSheet$Paper" "width") ∈ gT := gT_1 (List.mem_of_getElem? (i := 43) rfl) rfl
theorem t_44 : (Cond.lays "DotSheet$Paper" "DotSheet$Paper" "height" "I") ∈ gT := gT_1 (List.mem_of_getElem? (i := 44) rfl) rfl
theorem t_45 : (Cond.soleField "DotSheet$Paper" "height") ∈ gT := gT_1 (List.mem_of_getElem? (i := 45) rfl) rfl
theorem t_46 : (Cond.lays "DotSheet$Paper" "DotSheet$Paper" "manner" "I") ∈ gT := gT_1 (List.mem_of_getElem? (i := 46) rfl) rfl
theorem t_47 : (Cond.soleField "DotSheet$Paper" "manner") ∈ gT := gT_1 (List.mem_of_getElem? (i := 47) rfl) rfl
theorem t_48 : (Cond.lays "DotSheet$Paper" "DotSheet$Paper" "words" "[J") ∈ gT := gT_1 (List.mem_of_getElem? (i := 48) rfl) rfl
theorem t_49 : (Cond.soleField "DotSheet$Paper" "words") ∈ gT := gT_1 (List.mem_of_getElem? (i := 49) rfl) rfl
theorem t_50 : (Cond.lays "DotSheet$Paper" "DotSheet$Paper" "spare" "[J") ∈ gT := gT_1 (List.mem_of_getElem? (i := 50) rfl) rfl
theorem t_51 : (Cond.soleField "DotSheet$Paper" "spare") ∈ gT := gT_1 (List.mem_of_getElem? (i := 51) rfl) rfl
theorem t_52 : (Cond.laysFinal "DotSheet$Paper" "DotSheet$Paper" "block" "[J") ∈ gT := gT_1 (List.mem_of_getElem? (i := 52) rfl) rfl
theorem t_53 : (Cond.soleField "DotSheet$Paper" "block") ∈ gT := gT_1 (List.mem_of_getElem? (i := 53) rfl) rfl
theorem t_54 : (Cond.superclass "DotSheet$Paper" "java/lang/Object") ∈ gT := gT_1 (List.mem_of_getElem? (i := 54) rfl) rfl
theorem t_55 : (Cond.arrayClass FieldType.long) ∈ gT := gT_1 (List.mem_of_getElem? (i := 55) rfl) rfl
theorem t_56 : (Cond.classLink "DotSheet" (16 : Nat) "DotSheet$Steps") ∈ gT := gT_1 (List.mem_of_getElem? (i := 56) rfl) rfl
theorem t_57 : (Cond.instantiable "DotSheet$Steps" (8 : Nat)) ∈ gT := gT_1 (List.mem_of_getElem? (i := 57) rfl) rfl
theorem t_58 : (Cond.methodLink "DotSheet" (18 : Nat) ({ cls := "DotSheet$Steps", name := "<init>", desc := "(LDotSheet$Paper;)V" } : MethodName)) ∈ gT := gT_1 (List.mem_of_getElem? (i := 58) rfl) rfl
theorem t_59 : (Cond.instanceMethod ({ cls := "DotSheet$Steps", name := "<init>", desc := "(LDotSheet$Paper;)V" } : MethodName)) ∈ gT := gT_1 (List.mem_of_getElem? (i := 59) rfl) rfl
theorem t_60 : (Cond.code ({ cls := "DotSheet$Steps", name := "<init>", desc := "(LDotSheet$Paper;)V" } : MethodName) prog_6_method_1_code (2 : Nat) (Option.none : Option FieldType)) ∈ gT := gT_1 (List.mem_of_getElem? (i := 60) rfl) rfl
theorem t_61 : (Cond.methodLink "DotSheet$Steps" (1 : Nat) ({ cls := "java/lang/Object", name := "<init>", desc := "()V" } : MethodName)) ∈ gT := gT_1 (List.mem_of_getElem? (i := 61) rfl) rfl
theorem t_62 : (Cond.fieldLink "DotSheet$Steps" (7 : Nat) "DotSheet$Steps" "paper" "LDotSheet$Paper;") ∈ gT := gT_1 (List.mem_of_getElem? (i := 62) rfl) rfl
theorem t_63 : (Cond.fieldLink "DotSheet$Steps" (13 : Nat) "DotSheet$Steps" "x" "I") ∈ gT := gT_1 (List.mem_of_getElem? (i := 63) rfl) rfl
theorem t_64 : (Cond.fieldLink "DotSheet$Steps" (17 : Nat) "DotSheet$Steps" "y" "I") ∈ gT := gT_1 (List.mem_of_getElem? (i := 64) rfl) rfl
theorem t_65 : (Cond.fieldLink "DotSheet$Steps" (20 : Nat) "DotSheet$Steps" "quarter" "I") ∈ gT := gT_1 (List.mem_of_getElem? (i := 65) rfl) rfl
theorem t_66 : (Cond.fieldLink "DotSheet$Steps" (27 : Nat) "DotSheet$Steps" "left" "I") ∈ gT := gT_1 (List.mem_of_getElem? (i := 66) rfl) rfl
theorem t_67 : (Cond.fieldLink "DotSheet$Steps" (30 : Nat) "DotSheet$Steps" "top" "I") ∈ gT := gT_1 (List.mem_of_getElem? (i := 67) rfl) rfl
theorem t_68 : (Cond.fieldLink "DotSheet$Steps" (33 : Nat) "DotSheet$Steps" "right" "I") ∈ gT := gT_1 (List.mem_of_getElem? (i := 68) rfl) rfl
theorem t_69 : (Cond.fieldLink "DotSheet$Steps" (36 : Nat) "DotSheet$Steps" "bottom" "I") ∈ gT := gT_1 (List.mem_of_getElem? (i := 69) rfl) rfl
theorem t_70 : (Cond.laysFinal "DotSheet$Steps" "DotSheet$Steps" "paper" "LDotSheet$Paper;") ∈ gT := gT_1 (List.mem_of_getElem? (i := 70) rfl) rfl
theorem t_71 : (Cond.soleField "DotSheet$Steps" "paper") ∈ gT := gT_1 (List.mem_of_getElem? (i := 71) rfl) rfl
theorem t_72 : (Cond.lays "DotSheet$Steps" "DotSheet$Steps" "x" "I") ∈ gT := gT_1 (List.mem_of_getElem? (i := 72) rfl) rfl
theorem t_73 : (Cond.soleField "DotSheet$Steps" "x") ∈ gT := gT_1 (List.mem_of_getElem? (i := 73) rfl) rfl
theorem t_74 : (Cond.lays "DotSheet$Steps" "DotSheet$Steps" "y" "I") ∈ gT := gT_1 (List.mem_of_getElem? (i := 74) rfl) rfl
theorem t_75 : (Cond.soleField "DotSheet$Steps" "y") ∈ gT := gT_1 (List.mem_of_getElem? (i := 75) rfl) rfl
theorem t_76 : (Cond.lays "DotSheet$Steps" "DotSheet$Steps" "quarter" "I") ∈ gT := gT_1 (List.mem_of_getElem? (i := 76) rfl) rfl
theorem t_77 : (Cond.soleField "DotSheet$Steps" "quarter") ∈ gT := gT_1 (List.mem_of_getElem? (i := 77) rfl) rfl
theorem t_78 : (Cond.lays "DotSheet$Steps" "DotSheet$Steps" "left" "I") ∈ gT := gT_1 (List.mem_of_getElem? (i := 78) rfl) rfl
theorem t_79 : (Cond.soleField "DotSheet$Steps" "left") ∈ gT := gT_1 (List.mem_of_getElem? (i := 79) rfl) rfl
theorem t_80 : (Cond.lays "DotSheet$Steps" "DotSheet$Steps" "top" "I") ∈ gT := gT_1 (List.mem_of_getElem? (i := 80) rfl) rfl
theorem t_81 : (Cond.soleField "DotSheet$Steps" "top") ∈ gT := gT_1 (List.mem_of_getElem? (i := 81) rfl) rfl
theorem t_82 : (Cond.lays "DotSheet$Steps" "DotSheet$Steps" "right" "I") ∈ gT := gT_1 (List.mem_of_getElem? (i := 82) rfl) rfl
theorem t_83 : (Cond.soleField "DotSheet$Steps" "right") ∈ gT := gT_1 (List.mem_of_getElem? (i := 83) rfl) rfl
theorem t_84 : (Cond.lays "DotSheet$Steps" "DotSheet$Steps" "bottom" "I") ∈ gT := gT_1 (List.mem_of_getElem? (i := 84) rfl) rfl
theorem t_85 : (Cond.soleField "DotSheet$Steps" "bottom") ∈ gT := gT_1 (List.mem_of_getElem? (i := 85) rfl) rfl
theorem t_86 : (Cond.superclass "DotSheet$Steps" "java/lang/Object") ∈ gT := gT_1 (List.mem_of_getElem? (i := 86) rfl) rfl
theorem t_87 : (Cond.classLink "DotSheet" (25 : Nat) "DotSheet$Draft") ∈ gT := gT_1 (List.mem_of_getElem? (i := 87) rfl) rfl
theorem t_88 : (Cond.instantiable "DotSheet$Draft" (2 : Nat)) ∈ gT := gT_1 (List.mem_of_getElem? (i := 88) rfl) rfl
theorem b_89 : (Cond.methodLinkNest "DotSheet" (27 : Nat) ({ cls := "DotSheet$Draft", name := "<init>", desc := "()V" } : MethodName) "DotSheet") ∈ lw_tbl := List.mem_append_right _ (List.mem_append_left _ (List.mem_of_getElem? (i := 89) rfl))
theorem t_90 : (Cond.instanceMethod ({ cls := "DotSheet$Draft", name := "<init>", desc := "()V" } : MethodName)) ∈ gT := gT_1 (List.mem_of_getElem? (i := 90) rfl) rfl
theorem t_91 : (Cond.code ({ cls := "DotSheet$Draft", name := "<init>", desc := "()V" } : MethodName) prog_2_method_1_code (1 : Nat) (Option.none : Option FieldType)) ∈ gT := gT_1 (List.mem_of_getElem? (i := 91) rfl) rfl
theorem t_92 : (Cond.methodLink "DotSheet$Draft" (1 : Nat) ({ cls := "java/lang/Object", name := "<init>", desc := "()V" } : MethodName)) ∈ gT := gT_1 (List.mem_of_getElem? (i := 92) rfl) rfl
theorem t_93 : (Cond.fieldLink "DotSheet$Draft" (7 : Nat) "DotSheet$Draft" "size" "I") ∈ gT := gT_1 (List.mem_of_getElem? (i := 93) rfl) rfl
theorem t_94 : (Cond.fieldLink "DotSheet" (59 : Nat) "DotSheet$Draft" "size" "I") ∈ gT := gT_1 (List.mem_of_getElem? (i := 94) rfl) rfl
theorem t_95 : (Cond.fieldLink "DotSheet$Draft" (13 : Nat) "DotSheet$Draft" "bytes" "[B") ∈ gT := gT_1 (List.mem_of_getElem? (i := 95) rfl) rfl
theorem t_96 : (Cond.lays "DotSheet$Draft" "DotSheet$Draft" "size" "I") ∈ gT := gT_1 (List.mem_of_getElem? (i := 96) rfl) rfl
theorem t_97 : (Cond.soleField "DotSheet$Draft" "size") ∈ gT := gT_1 (List.mem_of_getElem? (i := 97) rfl) rfl
theorem t_98 : (Cond.laysFinal "DotSheet$Draft" "DotSheet$Draft" "bytes" "[B") ∈ gT := gT_1 (List.mem_of_getElem? (i := 98) rfl) rfl
theorem t_99 : (Cond.soleField "DotSheet$Draft" "bytes") ∈ gT := gT_1 (List.mem_of_getElem? (i := 99) rfl) rfl
theorem t_100 : (Cond.superclass "DotSheet$Draft" "java/lang/Object") ∈ gT := gT_1 (List.mem_of_getElem? (i := 100) rfl) rfl
theorem t_101 : (Cond.arrayClass FieldType.byte) ∈ gT := gT_1 (List.mem_of_getElem? (i := 101) rfl) rfl
theorem t_102 : (Cond.classLink "DotSheet" (32 : Nat) "DotSheet$Font") ∈ gT := gT_1 (List.mem_of_getElem? (i := 102) rfl) rfl
theorem b_103 : (Cond.arrayOver (FieldType.object "DotSheet$Font")) ∈ lw_tbl := List.mem_append_right _ (List.mem_append_left _ (List.mem_of_getElem? (i := 103) rfl))
theorem t_104 : (Cond.instantiable "DotSheet$Font" (4 : Nat)) ∈ gT := gT_1 (List.mem_of_getElem? (i := 104) rfl) rfl
theorem b_105 : (Cond.methodLinkNest "DotSheet" (38 : Nat) ({ cls := "DotSheet$Font", name := "<init>", desc := "()V" } : MethodName) "DotSheet") ∈ lw_tbl := List.mem_append_right _ (List.mem_append_left _ (List.mem_of_getElem? (i := 105) rfl))
theorem t_106 : (Cond.instanceMethod ({ cls := "DotSheet$Font", name := "<init>", desc := "()V" } : MethodName)) ∈ gT := gT_1 (List.mem_of_getElem? (i := 106) rfl) rfl
theorem t_107 : (Cond.code ({ cls := "DotSheet$Font", name := "<init>", desc := "()V" } : MethodName) prog_3_method_1_code (1 : Nat) (Option.none : Option FieldType)) ∈ gT := gT_1 (List.mem_of_getElem? (i := 107) rfl) rfl
theorem t_108 : (Cond.methodLink "DotSheet$Font" (1 : Nat) ({ cls := "java/lang/Object", name := "<init>", desc := "()V" } : MethodName)) ∈ gT := gT_1 (List.mem_of_getElem? (i := 108) rfl) rfl
theorem t_109 : (Cond.fieldLink "DotSheet$Font" (7 : Nat) "DotSheet$Font" "width" "I") ∈ gT := gT_1 (List.mem_of_getElem? (i := 109) rfl) rfl
theorem t_110 : (Cond.fieldLink "DotSheet" (140 : Nat) "DotSheet$Font" "width" "I") ∈ gT := gT_1 (List.mem_of_getElem? (i := 110) rfl) rfl
theorem t_111 : (Cond.fieldLink "DotSheet$Font" (13 : Nat) "DotSheet$Font" "height" "I") ∈ gT := gT_1 (List.mem_of_getElem? (i := 111) rfl) rfl
theorem t_112 : (Cond.fieldLink "DotSheet" (123 : Nat) "DotSheet$Font" "height" "I") ∈ gT := gT_1 (List.mem_of_getElem? (i := 112) rfl) rfl
theorem t_113 : (Cond.fieldLink "DotSheet$Font" (16 : Nat) "DotSheet$Font" "gap" "I") ∈ gT := gT_1 (List.mem_of_getElem? (i := 113) rfl) rfl
theorem t_114 : (Cond.fieldLink "DotSheet" (143 : Nat) "DotSheet$Font" "gap" "I") ∈ gT := gT_1 (List.mem_of_getElem? (i := 114) rfl) rfl
theorem t_115 : (Cond.fieldLink "DotSheet$Font" (19 : Nat) "DotSheet$Font" "rows" "[I") ∈ gT := gT_1 (List.mem_of_getElem? (i := 115) rfl) rfl
theorem t_116 : (Cond.lays "DotSheet$Font" "DotSheet$Font" "width" "I") ∈ gT := gT_1 (List.mem_of_getElem? (i := 116) rfl) rfl
theorem t_117 : (Cond.soleField "DotSheet$Font" "width") ∈ gT := gT_1 (List.mem_of_getElem? (i := 117) rfl) rfl
theorem t_118 : (Cond.lays "DotSheet$Font" "DotSheet$Font" "height" "I") ∈ gT := gT_1 (List.mem_of_getElem? (i := 118) rfl) rfl
theorem t_119 : (Cond.soleField "DotSheet$Font" "height") ∈ gT := gT_1 (List.mem_of_getElem? (i := 119) rfl) rfl
theorem t_120 : (Cond.lays "DotSheet$Font" "DotSheet$Font" "gap" "I") ∈ gT := gT_1 (List.mem_of_getElem? (i := 120) rfl) rfl
theorem t_121 : (Cond.soleField "DotSheet$Font" "gap") ∈ gT := gT_1 (List.mem_of_getElem? (i := 121) rfl) rfl
theorem t_122 : (Cond.laysFinal "DotSheet$Font" "DotSheet$Font" "rows" "[I") ∈ gT := gT_1 (List.mem_of_getElem? (i := 122) rfl) rfl
theorem t_123 : (Cond.soleField "DotSheet$Font" "rows") ∈ gT := gT_1 (List.mem_of_getElem? (i := 123) rfl) rfl
theorem t_124 : (Cond.superclass "DotSheet$Font" "java/lang/Object") ∈ gT := gT_1 (List.mem_of_getElem? (i := 124) rfl) rfl
theorem t_125 : (Cond.arrayClass FieldType.int) ∈ gT := gT_1 (List.mem_of_getElem? (i := 125) rfl) rfl
theorem t_126 : (Cond.fieldLink "DotSheet" (10 : Nat) "DotSheet" "paper" "LDotSheet$Paper;") ∈ gT := gT_1 (List.mem_of_getElem? (i := 126) rfl) rfl
theorem t_127 : (Cond.fieldLink "DotSheet" (21 : Nat) "DotSheet" "steps" "LDotSheet$Steps;") ∈ gT := gT_1 (List.mem_of_getElem? (i := 127) rfl) rfl
theorem t_128 : (Cond.fieldLink "DotSheet" (28 : Nat) "DotSheet" "draft" "LDotSheet$Draft;") ∈ gT := gT_1 (List.mem_of_getElem? (i := 128) rfl) rfl
theorem t_129 : (Cond.fieldLink "DotSheet" (34 : Nat) "DotSheet" "fonts" "[LDotSheet$Font;") ∈ gT := gT_1 (List.mem_of_getElem? (i := 129) rfl) rfl
theorem t_130 : (Cond.laysFinal "DotSheet" "DotSheet" "paper" "LDotSheet$Paper;") ∈ gT := gT_1 (List.mem_of_getElem? (i := 130) rfl) rfl
theorem t_131 : (Cond.soleField "DotSheet" "paper") ∈ gT := gT_1 (List.mem_of_getElem? (i := 131) rfl) rfl
theorem t_132 : (Cond.laysFinal "DotSheet" "DotSheet" "steps" "LDotSheet$Steps;") ∈ gT := gT_1 (List.mem_of_getElem? (i := 132) rfl) rfl
theorem t_133 : (Cond.soleField "DotSheet" "steps") ∈ gT := gT_1 (List.mem_of_getElem? (i := 133) rfl) rfl
theorem t_134 : (Cond.laysFinal "DotSheet" "DotSheet" "draft" "LDotSheet$Draft;") ∈ gT := gT_1 (List.mem_of_getElem? (i := 134) rfl) rfl
theorem t_135 : (Cond.soleField "DotSheet" "draft") ∈ gT := gT_1 (List.mem_of_getElem? (i := 135) rfl) rfl
theorem t_136 : (Cond.laysFinal "DotSheet" "DotSheet" "fonts" "[LDotSheet$Font;") ∈ gT := gT_1 (List.mem_of_getElem? (i := 136) rfl) rfl
theorem t_137 : (Cond.soleField "DotSheet" "fonts") ∈ gT := gT_1 (List.mem_of_getElem? (i := 137) rfl) rfl
theorem t_138 : (Cond.superclass "DotSheet" "java/lang/Object") ∈ gT := gT_1 (List.mem_of_getElem? (i := 138) rfl) rfl
theorem t_139 : (Cond.methodLink "DotSheetLaw" (100 : Nat) ({ cls := "DotSheet", name := "wipe", desc := "()I" } : MethodName)) ∈ gT := gT_1 (List.mem_of_getElem? (i := 139) rfl) rfl
theorem t_140 : (Cond.instanceMethod ({ cls := "DotSheet", name := "wipe", desc := "()I" } : MethodName)) ∈ gT := gT_1 (List.mem_of_getElem? (i := 140) rfl) rfl
theorem t_141 : (Cond.selects "DotSheet" ({ cls := "DotSheet", name := "wipe", desc := "()I" } : MethodName) ({ cls := "DotSheet", name := "wipe", desc := "()I" } : MethodName)) ∈ gT := gT_1 (List.mem_of_getElem? (i := 141) rfl) rfl
theorem t_142 : (Cond.code ({ cls := "DotSheet", name := "wipe", desc := "()I" } : MethodName) prog_1_method_5_code (2 : Nat) (Option.some FieldType.int)) ∈ gT := gT_1 (List.mem_of_getElem? (i := 142) rfl) rfl
theorem t_143 : (Cond.methodLink "DotSheetLaw" (80 : Nat) ({ cls := "DotSheetLaw", name := "sheet", desc := "(LDotSheet;II)I" } : MethodName)) ∈ gT := gT_1 (List.mem_of_getElem? (i := 143) rfl) rfl
theorem t_144 : (Cond.static ({ cls := "DotSheetLaw", name := "sheet", desc := "(LDotSheet;II)I" } : MethodName)) ∈ gT := gT_1 (List.mem_of_getElem? (i := 144) rfl) rfl
theorem t_145 : (Cond.codeWith ({ cls := "DotSheetLaw", name := "sheet", desc := "(LDotSheet;II)I" } : MethodName) method_3_code (4 : Nat) (Option.some FieldType.int) [((0 : Nat), (6 : Nat), (9 : Nat), (13 : Nat))]) ∈ gT := gT_1 (List.mem_of_getElem? (i := 145) rfl) rfl
theorem t_146 : (Cond.classLink "DotSheetLaw" (13 : Nat) "java/lang/IllegalArgumentException") ∈ gT := gT_1 (List.mem_of_getElem? (i := 146) rfl) rfl
theorem t_147 : (Cond.methodLink "DotSheetLaw" (7 : Nat) ({ cls := "DotSheet", name := "sheet", desc := "(II)V" } : MethodName)) ∈ gT := gT_1 (List.mem_of_getElem? (i := 147) rfl) rfl
theorem t_148 : (Cond.instanceMethod ({ cls := "DotSheet", name := "sheet", desc := "(II)V" } : MethodName)) ∈ gT := gT_1 (List.mem_of_getElem? (i := 148) rfl) rfl
theorem t_149 : (Cond.selects "DotSheet" ({ cls := "DotSheet", name := "sheet", desc := "(II)V" } : MethodName) ({ cls := "DotSheet", name := "sheet", desc := "(II)V" } : MethodName)) ∈ gT := gT_1 (List.mem_of_getElem? (i := 149) rfl) rfl
theorem t_150 : (Cond.code ({ cls := "DotSheet", name := "sheet", desc := "(II)V" } : MethodName) prog_1_method_2_code (3 : Nat) (Option.none : Option FieldType)) ∈ gT := gT_1 (List.mem_of_getElem? (i := 150) rfl) rfl
theorem t_151 : (Cond.methodLink "DotSheet" (39 : Nat) ({ cls := "DotSheet", name := "isWithin", desc := "(III)Z" } : MethodName)) ∈ gT := gT_1 (List.mem_of_getElem? (i := 151) rfl) rfl
theorem t_152 : (Cond.static ({ cls := "DotSheet", name := "isWithin", desc := "(III)Z" } : MethodName)) ∈ gT := gT_1 (List.mem_of_getElem? (i := 152) rfl) rfl
theorem t_153 : (Cond.code ({ cls := "DotSheet", name := "isWithin", desc := "(III)Z" } : MethodName) prog_1_method_30_code (3 : Nat) (Option.some FieldType.boolean)) ∈ gT := gT_1 (List.mem_of_getElem? (i := 153) rfl) rfl
theorem t_154 : (Cond.methodLink "DotSheet" (43 : Nat) ({ cls := "DotSheet", name := "demand", desc := "(Z)V" } : MethodName)) ∈ gT := gT_1 (List.mem_of_getElem? (i := 154) rfl) rfl
theorem t_155 : (Cond.static ({ cls := "DotSheet", name := "demand", desc := "(Z)V" } : MethodName)) ∈ gT := gT_1 (List.mem_of_getElem? (i := 155) rfl) rfl
theorem t_156 : (Cond.code ({ cls := "DotSheet", name := "demand", desc := "(Z)V" } : MethodName) prog_1_method_24_code (1 : Nat) (Option.none : Option FieldType)) ∈ gT := gT_1 (List.mem_of_getElem? (i := 156) rfl) rfl
theorem t_157 : (Cond.classLink "DotSheet" (197 : Nat) "java/lang/IllegalArgumentException") ∈ gT := gT_1 (List.mem_of_getElem? (i := 157) rfl) rfl
theorem t_158 : (Cond.instantiable "java/lang/IllegalArgumentException" (6 : Nat)) ∈ gT := gT_1 (List.mem_of_getElem? (i := 158) rfl) rfl
theorem b_159 : (Cond.castable "java/lang/IllegalArgumentException" "java/lang/IllegalArgumentException") ∈ lw_tbl := List.mem_append_right _ (List.mem_append_left _ (List.mem_of_getElem? (i := 159) rfl))
theorem b_160 : (Cond.declares ({ cls := "java/lang/RuntimeException", name := "<init>", desc := "()V" } : MethodName)) ∈ lw_tbl := List.mem_append_right _ (List.mem_append_left _ (List.mem_of_getElem? (i := 160) rfl))
theorem b_161 : (Cond.declares ({ cls := "java/lang/RuntimeException", name := "<init>", desc := "(Ljava/lang/String;)V" } : MethodName)) ∈ lw_tbl := List.mem_append_right _ (List.mem_append_left _ (List.mem_of_getElem? (i := 161) rfl))
theorem b_162 : (Cond.declares ({ cls := "java/lang/Exception", name := "<init>", desc := "()V" } : MethodName)) ∈ lw_tbl := List.mem_append_right _ (List.mem_append_left _ (List.mem_of_getElem? (i := 162) rfl))
theorem b_163 : (Cond.declares ({ cls := "java/lang/Exception", name := "<init>", desc := "(Ljava/lang/String;)V" } : MethodName)) ∈ lw_tbl := List.mem_append_right _ (List.mem_append_left _ (List.mem_of_getElem? (i := 163) rfl))
theorem b_164 : (Cond.declares ({ cls := "java/lang/Throwable", name := "<init>", desc := "()V" } : MethodName)) ∈ lw_tbl := List.mem_append_right _ (List.mem_append_left _ (List.mem_of_getElem? (i := 164) rfl))
theorem b_165 : (Cond.declares ({ cls := "java/lang/Throwable", name := "<init>", desc := "(Ljava/lang/String;)V" } : MethodName)) ∈ lw_tbl := List.mem_append_right _ (List.mem_append_left _ (List.mem_of_getElem? (i := 165) rfl))
theorem t_166 : (Cond.selects "java/lang/IllegalArgumentException" ({ cls := "java/lang/Throwable", name := "fillInStackTrace", desc := "(I)Ljava/lang/Throwable;" } : MethodName) ({ cls := "java/lang/Throwable", name := "fillInStackTrace", desc := "(I)Ljava/lang/Throwable;" } : MethodName)) ∈ gT := gT_1 (List.mem_of_getElem? (i := 166) rfl) rfl
theorem t_167 : (Cond.selects "java/lang/IllegalArgumentException" ({ cls := "java/lang/Throwable", name := "fillInStackTrace", desc := "()Ljava/lang/Throwable;" } : MethodName) ({ cls := "java/lang/Throwable", name := "fillInStackTrace", desc := "()Ljava/lang/Throwable;" } : MethodName)) ∈ gT := gT_1 (List.mem_of_getElem? (i := 167) rfl) rfl
theorem t_168 : (Cond.lays "java/lang/IllegalArgumentException" "java/lang/Throwable" "cause" "Ljava/lang/Throwable;") ∈ gT := gT_1 (List.mem_of_getElem? (i := 168) rfl) rfl
theorem t_169 : (Cond.lays "java/lang/Throwable" "java/lang/Throwable" "cause" "Ljava/lang/Throwable;") ∈ gT := gT_1 (List.mem_of_getElem? (i := 169) rfl) rfl
theorem t_170 : (Cond.lays "java/lang/IllegalArgumentException" "java/lang/Throwable" "stackTrace" "[Ljava/lang/StackTraceElement;") ∈ gT := gT_1 (List.mem_of_getElem? (i := 170) rfl) rfl
theorem t_171 : (Cond.lays "java/lang/Throwable" "java/lang/Throwable" "stackTrace" "[Ljava/lang/StackTraceElement;") ∈ gT := gT_1 (List.mem_of_getElem? (i := 171) rfl) rfl
theorem t_172 : (Cond.lays "java/lang/IllegalArgumentException" "java/lang/Throwable" "suppressedExceptions" "Ljava/util/List;") ∈ gT := gT_1 (List.mem_of_getElem? (i := 172) rfl) rfl
theorem t_173 : (Cond.lays "java/lang/Throwable" "java/lang/Throwable" "suppressedExceptions" "Ljava/util/List;") ∈ gT := gT_1 (List.mem_of_getElem? (i := 173) rfl) rfl
theorem t_174 : (Cond.lays "java/lang/IllegalArgumentException" "java/lang/Throwable" "detailMessage" "Ljava/lang/String;") ∈ gT := gT_1 (List.mem_of_getElem? (i := 174) rfl) rfl
theorem t_175 : (Cond.lays "java/lang/Throwable" "java/lang/Throwable" "detailMessage" "Ljava/lang/String;") ∈ gT := gT_1 (List.mem_of_getElem? (i := 175) rfl) rfl
theorem t_176 : (Cond.lays "java/lang/IllegalArgumentException" "java/lang/Throwable" "backtrace" "Ljava/lang/Object;") ∈ gT := gT_1 (List.mem_of_getElem? (i := 176) rfl) rfl
theorem t_177 : (Cond.lays "java/lang/Throwable" "java/lang/Throwable" "backtrace" "Ljava/lang/Object;") ∈ gT := gT_1 (List.mem_of_getElem? (i := 177) rfl) rfl
theorem t_178 : (Cond.fieldLink "java/lang/Throwable" (198 : Nat) "java/lang/Throwable" "backtrace" "Ljava/lang/Object;") ∈ gT := gT_1 (List.mem_of_getElem? (i := 178) rfl) rfl
theorem t_179 : (Cond.superclass "java/lang/Throwable" "java/lang/Object") ∈ gT := gT_1 (List.mem_of_getElem? (i := 179) rfl) rfl
theorem t_180 : (Cond.instanceMethod ({ cls := "java/lang/Throwable", name := "<init>", desc := "()V" } : MethodName)) ∈ gT := gT_1 (List.mem_of_getElem? (i := 180) rfl) rfl
theorem t_181 : (Cond.code ({ cls := "java/lang/Throwable", name := "<init>", desc := "()V" } : MethodName) prog_19_method_1_code (1 : Nat) (Option.none : Option FieldType)) ∈ gT := gT_1 (List.mem_of_getElem? (i := 181) rfl) rfl
theorem t_182 : (Cond.methodLink "java/lang/Throwable" (1 : Nat) ({ cls := "java/lang/Object", name := "<init>", desc := "()V" } : MethodName)) ∈ gT := gT_1 (List.mem_of_getElem? (i := 182) rfl) rfl
theorem t_183 : (Cond.fieldLink "java/lang/Throwable" (13 : Nat) "java/lang/Throwable" "UNASSIGNED_STACK" "[Ljava/lang/StackTraceElement;") ∈ gT := gT_1 (List.mem_of_getElem? (i := 183) rfl) rfl
theorem b_184 : (Cond.laysStatic "java/lang/Throwable" "UNASSIGNED_STACK" "[Ljava/lang/StackTraceElement;") ∈ lw_tbl := List.mem_append_right _ (List.mem_append_left _ (List.mem_of_getElem? (i := 184) rfl))
theorem t_185 : (Cond.fieldLink "java/lang/Throwable" (20 : Nat) "java/lang/Throwable" "SUPPRESSED_SENTINEL" "Ljava/util/List;") ∈ gT := gT_1 (List.mem_of_getElem? (i := 185) rfl) rfl
theorem b_186 : (Cond.laysStatic "java/lang/Throwable" "SUPPRESSED_SENTINEL" "Ljava/util/List;") ∈ lw_tbl := List.mem_append_right _ (List.mem_append_left _ (List.mem_of_getElem? (i := 186) rfl))
theorem t_187 : (Cond.methodLink "java/lang/Throwable" (27 : Nat) ({ cls := "java/lang/Throwable", name := "fillInStackTrace", desc := "()Ljava/lang/Throwable;" } : MethodName)) ∈ gT := gT_1 (List.mem_of_getElem? (i := 187) rfl) rfl
theorem t_188 : (Cond.instanceMethod ({ cls := "java/lang/Throwable", name := "fillInStackTrace", desc := "()Ljava/lang/Throwable;" } : MethodName)) ∈ gT := gT_1 (List.mem_of_getElem? (i := 188) rfl) rfl
theorem t_189 : (Cond.sameMethod "java/lang/Throwable" "java/lang/Throwable" "fillInStackTrace" "()Ljava/lang/Throwable;") ∈ gT := gT_1 (List.mem_of_getElem? (i := 189) rfl) rfl
theorem t_190 : (Cond.selects "java/lang/IllegalStateException" ({ cls := "java/lang/Throwable", name := "fillInStackTrace", desc := "()Ljava/lang/Throwable;" } : MethodName) ({ cls := "java/lang/Throwable", name := "fillInStackTrace", desc := "()Ljava/lang/Throwable;" } : MethodName)) ∈ gT := gT_1 (List.mem_of_getElem? (i := 190) rfl) rfl
theorem t_191 : (Cond.selects "java/lang/IndexOutOfBoundsException" ({ cls := "java/lang/Throwable", name := "fillInStackTrace", desc := "()Ljava/lang/Throwable;" } : MethodName) ({ cls := "java/lang/Throwable", name := "fillInStackTrace", desc := "()Ljava/lang/Throwable;" } : MethodName)) ∈ gT := gT_1 (List.mem_of_getElem? (i := 191) rfl) rfl
theorem b_192 : (Cond.codeSync ({ cls := "java/lang/Throwable", name := "fillInStackTrace", desc := "()Ljava/lang/Throwable;" } : MethodName) prog_19_method_18_code (1 : Nat) (Option.some (FieldType.object "java/lang/Throwable"))) ∈ lw_tbl := List.mem_append_right _ (List.mem_append_left _ (List.mem_of_getElem? (i := 192) rfl))
theorem t_193 : (Cond.methodLink "java/lang/Throwable" (202 : Nat) ({ cls := "java/lang/Throwable", name := "fillInStackTrace", desc := "(I)Ljava/lang/Throwable;" } : MethodName)) ∈ gT := gT_1 (List.mem_of_getElem? (i := 193) rfl) rfl
theorem b_194 : (Cond.privateMethod ({ cls := "java/lang/Throwable", name := "fillInStackTrace", desc := "(I)Ljava/lang/Throwable;" } : MethodName)) ∈ lw_tbl := List.mem_append_right _ (List.mem_append_left _ (List.mem_of_getElem? (i := 194) rfl))
theorem t_195 : (Cond.instanceMethod ({ cls := "java/lang/Throwable", name := "fillInStackTrace", desc := "(I)Ljava/lang/Throwable;" } : MethodName)) ∈ gT := gT_1 (List.mem_of_getElem? (i := 195) rfl) rfl
theorem t_196 : (Cond.instantiable "java/lang/Throwable" (6 : Nat)) ∈ gT := gT_1 (List.mem_of_getElem? (i := 196) rfl) rfl
theorem b_197 : (Cond.native ({ cls := "java/lang/Throwable", name := "fillInStackTrace", desc := "(I)Ljava/lang/Throwable;" } : MethodName)) ∈ lw_tbl := List.mem_append_right _ (List.mem_append_left _ (List.mem_of_getElem? (i := 197) rfl))
theorem b_198 : (Cond.stringRef "DotSheet" (225 : Nat) "an argument is out of its range") ∈ lw_tbl := List.mem_append_right _ (List.mem_append_left _ (List.mem_of_getElem? (i := 198) rfl))
theorem t_199 : (Cond.methodLink "DotSheet" (201 : Nat) ({ cls := "java/lang/IllegalArgumentException", name := "<init>", desc := "(Ljava/lang/String;)V" } : MethodName)) ∈ gT := gT_1 (List.mem_of_getElem? (i := 199) rfl) rfl
theorem t_200 : (Cond.instanceMethod ({ cls := "java/lang/IllegalArgumentException", name := "<init>", desc := "(Ljava/lang/String;)V" } : MethodName)) ∈ gT := gT_1 (List.mem_of_getElem? (i := 200) rfl) rfl
theorem t_201 : (Cond.code ({ cls := "java/lang/IllegalArgumentException", name := "<init>", desc := "(Ljava/lang/String;)V" } : MethodName) prog_11_method_2_code (2 : Nat) (Option.none : Option FieldType)) ∈ gT := gT_1 (List.mem_of_getElem? (i := 201) rfl) rfl
theorem t_202 : (Cond.methodLink "java/lang/IllegalArgumentException" (7 : Nat) ({ cls := "java/lang/RuntimeException", name := "<init>", desc := "(Ljava/lang/String;)V" } : MethodName)) ∈ gT := gT_1 (List.mem_of_getElem? (i := 202) rfl) rfl
theorem t_203 : (Cond.instanceMethod ({ cls := "java/lang/RuntimeException", name := "<init>", desc := "(Ljava/lang/String;)V" } : MethodName)) ∈ gT := gT_1 (List.mem_of_getElem? (i := 203) rfl) rfl
theorem t_204 : (Cond.code ({ cls := "java/lang/RuntimeException", name := "<init>", desc := "(Ljava/lang/String;)V" } : MethodName) prog_17_method_2_code (2 : Nat) (Option.none : Option FieldType)) ∈ gT := gT_1 (List.mem_of_getElem? (i := 204) rfl) rfl
theorem t_205 : (Cond.methodLink "java/lang/RuntimeException" (7 : Nat) ({ cls := "java/lang/Exception", name := "<init>", desc := "(Ljava/lang/String;)V" } : MethodName)) ∈ gT := gT_1 (List.mem_of_getElem? (i := 205) rfl) rfl
theorem t_206 : (Cond.instanceMethod ({ cls := "java/lang/Exception", name := "<init>", desc := "(Ljava/lang/String;)V" } : MethodName)) ∈ gT := gT_1 (List.mem_of_getElem? (i := 206) rfl) rfl
theorem t_207 : (Cond.code ({ cls := "java/lang/Exception", name := "<init>", desc := "(Ljava/lang/String;)V" } : MethodName) prog_10_method_2_code (2 : Nat) (Option.none : Option FieldType)) ∈ gT := gT_1 (List.mem_of_getElem? (i := 207) rfl) rfl
theorem t_208 : (Cond.methodLink "java/lang/Exception" (7 : Nat) ({ cls := "java/lang/Throwable", name := "<init>", desc := "(Ljava/lang/String;)V" } : MethodName)) ∈ gT := gT_1 (List.mem_of_getElem? (i := 208) rfl) rfl
theorem t_209 : (Cond.instanceMethod ({ cls := "java/lang/Throwable", name := "<init>", desc := "(Ljava/lang/String;)V" } : MethodName)) ∈ gT := gT_1 (List.mem_of_getElem? (i := 209) rfl) rfl
theorem t_210 : (Cond.code ({ cls := "java/lang/Throwable", name := "<init>", desc := "(Ljava/lang/String;)V" } : MethodName) prog_19_method_2_code (2 : Nat) (Option.none : Option FieldType)) ∈ gT := gT_1 (List.mem_of_getElem? (i := 210) rfl) rfl
theorem t_211 : (Cond.fieldLink "java/lang/Throwable" (198 : Nat) "java/lang/Throwable" "backtrace" "Ljava/lang/Object;") ∈ gT := gT_1 (List.mem_of_getElem? (i := 211) rfl) rfl
theorem t_212 : (Cond.fieldLink "java/lang/Throwable" (31 : Nat) "java/lang/Throwable" "detailMessage" "Ljava/lang/String;") ∈ gT := gT_1 (List.mem_of_getElem? (i := 212) rfl) rfl
theorem t_213 : (Cond.fieldLink "java/lang/Throwable" (7 : Nat) "java/lang/Throwable" "cause" "Ljava/lang/Throwable;") ∈ gT := gT_1 (List.mem_of_getElem? (i := 213) rfl) rfl
theorem t_214 : (Cond.fieldLink "java/lang/Throwable" (17 : Nat) "java/lang/Throwable" "stackTrace" "[Ljava/lang/StackTraceElement;") ∈ gT := gT_1 (List.mem_of_getElem? (i := 214) rfl) rfl
theorem t_215 : (Cond.fieldLink "java/lang/Throwable" (24 : Nat) "java/lang/Throwable" "suppressedExceptions" "Ljava/util/List;") ∈ gT := gT_1 (List.mem_of_getElem? (i := 215) rfl) rfl
theorem t_216 : (Cond.soleField "java/lang/Throwable" "backtrace") ∈ gT := gT_1 (List.mem_of_getElem? (i := 216) rfl) rfl
theorem t_217 : (Cond.soleField "java/lang/Throwable" "detailMessage") ∈ gT := gT_1 (List.mem_of_getElem? (i := 217) rfl) rfl
theorem t_218 : (Cond.soleField "java/lang/Throwable" "cause") ∈ gT := gT_1 (List.mem_of_getElem? (i := 218) rfl) rfl
theorem t_219 : (Cond.soleField "java/lang/Throwable" "stackTrace") ∈ gT := gT_1 (List.mem_of_getElem? (i := 219) rfl) rfl
theorem t_220 : (Cond.lays "java/lang/IllegalArgumentException" "java/lang/Throwable" "depth" "I") ∈ gT := gT_1 (List.mem_of_getElem? (i := 220) rfl) rfl
theorem t_221 : (Cond.soleField "java/lang/Throwable" "depth") ∈ gT := gT_1 (List.mem_of_getElem? (i := 221) rfl) rfl
theorem t_222 : (Cond.soleField "java/lang/Throwable" "suppressedExceptions") ∈ gT := gT_1 (List.mem_of_getElem? (i := 222) rfl) rfl
theorem t_223 : (Cond.superclass "java/lang/IllegalArgumentException" "java/lang/RuntimeException") ∈ gT := gT_1 (List.mem_of_getElem? (i := 223) rfl) rfl
theorem t_224 : (Cond.methodLink "DotSheet" (47 : Nat) ({ cls := "DotSheet$Paper", name := "renew", desc := "(II)V" } : MethodName)) ∈ gT := gT_1 (List.mem_of_getElem? (i := 224) rfl) rfl
theorem t_225 : (Cond.instanceMethod ({ cls := "DotSheet$Paper", name := "renew", desc := "(II)V" } : MethodName)) ∈ gT := gT_1 (List.mem_of_getElem? (i := 225) rfl) rfl
theorem t_226 : (Cond.selects "DotSheet$Paper" ({ cls := "DotSheet$Paper", name := "renew", desc := "(II)V" } : MethodName) ({ cls := "DotSheet$Paper", name := "renew", desc := "(II)V" } : MethodName)) ∈ gT := gT_1 (List.mem_of_getElem? (i := 226) rfl) rfl
theorem t_227 : (Cond.code ({ cls := "DotSheet$Paper", name := "renew", desc := "(II)V" } : MethodName) prog_4_method_2_code (3 : Nat) (Option.none : Option FieldType)) ∈ gT := gT_1 (List.mem_of_getElem? (i := 227) rfl) rfl
theorem t_228 : (Cond.methodLink "DotSheet$Paper" (31 : Nat) ({ cls := "java/util/Arrays", name := "fill", desc := "([JJ)V" } : MethodName)) ∈ gT := gT_1 (List.mem_of_getElem? (i := 228) rfl) rfl
theorem t_229 : (Cond.static ({ cls := "java/util/Arrays", name := "fill", desc := "([JJ)V" } : MethodName)) ∈ gT := gT_1 (List.mem_of_getElem? (i := 229) rfl) rfl
theorem t_230 : (Cond.code ({ cls := "java/util/Arrays", name := "fill", desc := "([JJ)V" } : MethodName) prog_20_method_101_code (5 : Nat) (Option.none : Option FieldType)) ∈ gT := gT_1 (List.mem_of_getElem? (i := 230) rfl) rfl
theorem t_231 : (Cond.methodLink "DotSheetLaw" (90 : Nat) ({ cls := "DotSheetLaw", name := "way", desc := "(LDotSheet;I[J)I" } : MethodName)) ∈ gT := gT_1 (List.mem_of_getElem? (i := 231) rfl) rfl
theorem t_232 : (Cond.static ({ cls := "DotSheetLaw", name := "way", desc := "(LDotSheet;I[J)I" } : MethodName)) ∈ gT := gT_1 (List.mem_of_getElem? (i := 232) rfl) rfl
theorem t_233 : (Cond.codeWith ({ cls := "DotSheetLaw", name := "way", desc := "(LDotSheet;I[J)I" } : MethodName) method_4_code (4 : Nat) (Option.some FieldType.int) [((0 : Nat), (9 : Nat), (12 : Nat), (13 : Nat))]) ∈ gT := gT_1 (List.mem_of_getElem? (i := 233) rfl) rfl
theorem t_234 : (Cond.methodLink "DotSheetLaw" (15 : Nat) ({ cls := "DotSheet", name := "way", desc := "(I)I" } : MethodName)) ∈ gT := gT_1 (List.mem_of_getElem? (i := 234) rfl) rfl
theorem t_235 : (Cond.instanceMethod ({ cls := "DotSheet", name := "way", desc := "(I)I" } : MethodName)) ∈ gT := gT_1 (List.mem_of_getElem? (i := 235) rfl) rfl
theorem t_236 : (Cond.selects "DotSheet" ({ cls := "DotSheet", name := "way", desc := "(I)I" } : MethodName) ({ cls := "DotSheet", name := "way", desc := "(I)I" } : MethodName)) ∈ gT := gT_1 (List.mem_of_getElem? (i := 236) rfl) rfl
theorem t_237 : (Cond.code ({ cls := "DotSheet", name := "way", desc := "(I)I" } : MethodName) prog_1_method_3_code (3 : Nat) (Option.some FieldType.int)) ∈ gT := gT_1 (List.mem_of_getElem? (i := 237) rfl) rfl
theorem t_238 : (Cond.methodLink "DotSheetLaw" (96 : Nat) ({ cls := "DotSheetLaw", name := "write", desc := "(LDotSheet;IJ[J)I" } : MethodName)) ∈ gT := gT_1 (List.mem_of_getElem? (i := 238) rfl) rfl
theorem t_239 : (Cond.static ({ cls := "DotSheetLaw", name := "write", desc := "(LDotSheet;IJ[J)I" } : MethodName)) ∈ gT := gT_1 (List.mem_of_getElem? (i := 239) rfl) rfl
theorem t_240 : (Cond.codeWith ({ cls := "DotSheetLaw", name := "write", desc := "(LDotSheet;IJ[J)I" } : MethodName) method_5_code (6 : Nat) (Option.some FieldType.int) [((0 : Nat), (11 : Nat), (14 : Nat), (13 : Nat))]) ∈ gT := gT_2 (List.mem_of_getElem? (i := 0) rfl) rfl
theorem t_241 : (Cond.methodLink "DotSheetLaw" (19 : Nat) ({ cls := "DotSheet", name := "write", desc := "(IJ)I" } : MethodName)) ∈ gT := gT_2 (List.mem_of_getElem? (i := 1) rfl) rfl
theorem t_242 : (Cond.instanceMethod ({ cls := "DotSheet", name := "write", desc := "(IJ)I" } : MethodName)) ∈ gT := gT_2 (List.mem_of_getElem? (i := 2) rfl) rfl
theorem t_243 : (Cond.selects "DotSheet" ({ cls := "DotSheet", name := "write", desc := "(IJ)I" } : MethodName) ({ cls := "DotSheet", name := "write", desc := "(IJ)I" } : MethodName)) ∈ gT := gT_2 (List.mem_of_getElem? (i := 3) rfl) rfl
theorem t_244 : (Cond.code ({ cls := "DotSheet", name := "write", desc := "(IJ)I" } : MethodName) prog_1_method_4_code (4 : Nat) (Option.some FieldType.int)) ∈ gT := gT_2 (List.mem_of_getElem? (i := 4) rfl) rfl
theorem t_245 : (Cond.methodLink "DotSheet" (55 : Nat) ({ cls := "DotSheet$Draft", name := "append", desc := "(IJ)Z" } : MethodName)) ∈ gT := gT_2 (List.mem_of_getElem? (i := 5) rfl) rfl
theorem t_246 : (Cond.instanceMethod ({ cls := "DotSheet$Draft", name := "append", desc := "(IJ)Z" } : MethodName)) ∈ gT := gT_2 (List.mem_of_getElem? (i := 6) rfl) rfl
theorem t_247 : (Cond.selects "DotSheet$Draft" ({ cls := "DotSheet$Draft", name := "append", desc := "(IJ)Z" } : MethodName) ({ cls := "DotSheet$Draft", name := "append", desc := "(IJ)Z" } : MethodName)) ∈ gT := gT_2 (List.mem_of_getElem? (i := 7) rfl) rfl
theorem t_248 : (Cond.code ({ cls := "DotSheet$Draft", name := "append", desc := "(IJ)Z" } : MethodName) prog_2_method_2_code (5 : Nat) (Option.some FieldType.boolean)) ∈ gT := gT_2 (List.mem_of_getElem? (i := 8) rfl) rfl
theorem t_249 : (Cond.methodLink "DotSheetLaw" (104 : Nat) ({ cls := "DotSheetLaw", name := "frame", desc := "(LDotSheet;IIIII[J)I" } : MethodName)) ∈ gT := gT_2 (List.mem_of_getElem? (i := 9) rfl) rfl
theorem t_250 : (Cond.static ({ cls := "DotSheetLaw", name := "frame", desc := "(LDotSheet;IIIII[J)I" } : MethodName)) ∈ gT := gT_2 (List.mem_of_getElem? (i := 10) rfl) rfl
theorem t_251 : (Cond.codeWith ({ cls := "DotSheetLaw", name := "frame", desc := "(LDotSheet;IIIII[J)I" } : MethodName) method_6_code (8 : Nat) (Option.some FieldType.int) [((0 : Nat), (16 : Nat), (19 : Nat), (13 : Nat))]) ∈ gT := gT_2 (List.mem_of_getElem? (i := 11) rfl) rfl
theorem t_252 : (Cond.methodLink "DotSheetLaw" (23 : Nat) ({ cls := "DotSheet", name := "frame", desc := "(IIIII)I" } : MethodName)) ∈ gT := gT_2 (List.mem_of_getElem? (i := 12) rfl) rfl
theorem t_253 : (Cond.instanceMethod ({ cls := "DotSheet", name := "frame", desc := "(IIIII)I" } : MethodName)) ∈ gT := gT_2 (List.mem_of_getElem? (i := 13) rfl) rfl
theorem t_254 : (Cond.selects "DotSheet" ({ cls := "DotSheet", name := "frame", desc := "(IIIII)I" } : MethodName) ({ cls := "DotSheet", name := "frame", desc := "(IIIII)I" } : MethodName)) ∈ gT := gT_2 (List.mem_of_getElem? (i := 14) rfl) rfl
theorem t_255 : (Cond.code ({ cls := "DotSheet", name := "frame", desc := "(IIIII)I" } : MethodName) prog_1_method_6_code (10 : Nat) (Option.some FieldType.int)) ∈ gT := gT_2 (List.mem_of_getElem? (i := 15) rfl) rfl
theorem t_256 : (Cond.methodLink "DotSheet" (62 : Nat) ({ cls := "DotSheet", name := "demandBox", desc := "(IIII)V" } : MethodName)) ∈ gT := gT_2 (List.mem_of_getElem? (i := 16) rfl) rfl
theorem t_257 : (Cond.static ({ cls := "DotSheet", name := "demandBox", desc := "(IIII)V" } : MethodName)) ∈ gT := gT_2 (List.mem_of_getElem? (i := 17) rfl) rfl
theorem t_258 : (Cond.code ({ cls := "DotSheet", name := "demandBox", desc := "(IIII)V" } : MethodName) prog_1_method_22_code (4 : Nat) (Option.none : Option FieldType)) ∈ gT := gT_2 (List.mem_of_getElem? (i := 18) rfl) rfl
theorem t_259 : (Cond.methodLink "DotSheet" (90 : Nat) ({ cls := "DotSheet", name := "isPlace", desc := "(I)Z" } : MethodName)) ∈ gT := gT_2 (List.mem_of_getElem? (i := 19) rfl) rfl
theorem t_260 : (Cond.static ({ cls := "DotSheet", name := "isPlace", desc := "(I)Z" } : MethodName)) ∈ gT := gT_2 (List.mem_of_getElem? (i := 20) rfl) rfl
theorem t_261 : (Cond.code ({ cls := "DotSheet", name := "isPlace", desc := "(I)Z" } : MethodName) prog_1_method_25_code (1 : Nat) (Option.some FieldType.boolean)) ∈ gT := gT_2 (List.mem_of_getElem? (i := 21) rfl) rfl
theorem t_262 : (Cond.methodLink "DotSheet" (158 : Nat) ({ cls := "DotSheet", name := "isSize", desc := "(I)Z" } : MethodName)) ∈ gT := gT_2 (List.mem_of_getElem? (i := 22) rfl) rfl
theorem t_263 : (Cond.static ({ cls := "DotSheet", name := "isSize", desc := "(I)Z" } : MethodName)) ∈ gT := gT_2 (List.mem_of_getElem? (i := 23) rfl) rfl
theorem t_264 : (Cond.code ({ cls := "DotSheet", name := "isSize", desc := "(I)Z" } : MethodName) prog_1_method_26_code (1 : Nat) (Option.some FieldType.boolean)) ∈ gT := gT_2 (List.mem_of_getElem? (i := 24) rfl) rfl
theorem t_265 : (Cond.methodLink "DotSheet" (66 : Nat) ({ cls := "DotSheet", name := "isThickness", desc := "(I)Z" } : MethodName)) ∈ gT := gT_2 (List.mem_of_getElem? (i := 25) rfl) rfl
theorem t_266 : (Cond.static ({ cls := "DotSheet", name := "isThickness", desc := "(I)Z" } : MethodName)) ∈ gT := gT_2 (List.mem_of_getElem? (i := 26) rfl) rfl
theorem t_267 : (Cond.code ({ cls := "DotSheet", name := "isThickness", desc := "(I)Z" } : MethodName) prog_1_method_27_code (1 : Nat) (Option.some FieldType.boolean)) ∈ gT := gT_2 (List.mem_of_getElem? (i := 27) rfl) rfl
theorem t_268 : (Cond.methodLink "DotSheet" (70 : Nat) ({ cls := "java/lang/Math", name := "max", desc := "(II)I" } : MethodName)) ∈ gT := gT_2 (List.mem_of_getElem? (i := 28) rfl) rfl
theorem t_269 : (Cond.static ({ cls := "java/lang/Math", name := "max", desc := "(II)I" } : MethodName)) ∈ gT := gT_2 (List.mem_of_getElem? (i := 29) rfl) rfl
theorem t_270 : (Cond.code ({ cls := "java/lang/Math", name := "max", desc := "(II)I" } : MethodName) prog_16_method_65_code (2 : Nat) (Option.some FieldType.int)) ∈ gT := gT_2 (List.mem_of_getElem? (i := 30) rfl) rfl
theorem t_271 : (Cond.methodLink "DotSheet" (79 : Nat) ({ cls := "java/lang/Math", name := "min", desc := "(II)I" } : MethodName)) ∈ gT := gT_2 (List.mem_of_getElem? (i := 31) rfl) rfl
theorem t_272 : (Cond.static ({ cls := "java/lang/Math", name := "min", desc := "(II)I" } : MethodName)) ∈ gT := gT_2 (List.mem_of_getElem? (i := 32) rfl) rfl
theorem t_273 : (Cond.code ({ cls := "java/lang/Math", name := "min", desc := "(II)I" } : MethodName) prog_16_method_69_code (2 : Nat) (Option.some FieldType.int)) ∈ gT := gT_2 (List.mem_of_getElem? (i := 33) rfl) rfl
theorem t_274 : (Cond.methodLink "DotSheet" (82 : Nat) ({ cls := "DotSheet$Paper", name := "drawRing", desc := "(IIIII)I" } : MethodName)) ∈ gT := gT_2 (List.mem_of_getElem? (i := 34) rfl) rfl
theorem t_275 : (Cond.instanceMethod ({ cls := "DotSheet$Paper", name := "drawRing", desc := "(IIIII)I" } : MethodName)) ∈ gT := gT_2 (List.mem_of_getElem? (i := 35) rfl) rfl
theorem t_276 : (Cond.selects "DotSheet$Paper" ({ cls := "DotSheet$Paper", name := "drawRing", desc := "(IIIII)I" } : MethodName) ({ cls := "DotSheet$Paper", name := "drawRing", desc := "(IIIII)I" } : MethodName)) ∈ gT := gT_2 (List.mem_of_getElem? (i := 36) rfl) rfl
theorem t_277 : (Cond.code ({ cls := "DotSheet$Paper", name := "drawRing", desc := "(IIIII)I" } : MethodName) prog_4_method_7_code (6 : Nat) (Option.some FieldType.int)) ∈ gT := gT_2 (List.mem_of_getElem? (i := 37) rfl) rfl
theorem t_278 : (Cond.methodLink "DotSheet$Paper" (58 : Nat) ({ cls := "DotSheet$Paper", name := "drawBox", desc := "(IIII)I" } : MethodName)) ∈ gT := gT_2 (List.mem_of_getElem? (i := 38) rfl) rfl
theorem t_279 : (Cond.instanceMethod ({ cls := "DotSheet$Paper", name := "drawBox", desc := "(IIII)I" } : MethodName)) ∈ gT := gT_2 (List.mem_of_getElem? (i := 39) rfl) rfl
theorem t_280 : (Cond.selects "DotSheet$Paper" ({ cls := "DotSheet$Paper", name := "drawBox", desc := "(IIII)I" } : MethodName) ({ cls := "DotSheet$Paper", name := "drawBox", desc := "(IIII)I" } : MethodName)) ∈ gT := gT_2 (List.mem_of_getElem? (i := 40) rfl) rfl
theorem t_281 : (Cond.code ({ cls := "DotSheet$Paper", name := "drawBox", desc := "(IIII)I" } : MethodName) prog_4_method_6_code (13 : Nat) (Option.some FieldType.int)) ∈ gT := gT_2 (List.mem_of_getElem? (i := 41) rfl) rfl
theorem t_282 : (Cond.methodLink "DotSheet$Paper" (41 : Nat) ({ cls := "java/lang/Math", name := "max", desc := "(II)I" } : MethodName)) ∈ gT := gT_2 (List.mem_of_getElem? (i := 42) rfl) rfl
theorem t_283 : (Cond.methodLink "DotSheet$Paper" (47 : Nat) ({ cls := "java/lang/Math", name := "min", desc := "(II)I" } : MethodName)) ∈ gT := gT_2 (List.mem_of_getElem? (i := 43) rfl) rfl
theorem t_284 : (Cond.methodLink "DotSheet$Paper" (50 : Nat) ({ cls := "DotSheet$Paper", name := "maskOf", desc := "(III)J" } : MethodName)) ∈ gT := gT_2 (List.mem_of_getElem? (i := 44) rfl) rfl
theorem t_285 : (Cond.static ({ cls := "DotSheet$Paper", name := "maskOf", desc := "(III)J" } : MethodName)) ∈ gT := gT_2 (List.mem_of_getElem? (i := 45) rfl) rfl
theorem t_286 : (Cond.code ({ cls := "DotSheet$Paper", name := "maskOf", desc := "(III)J" } : MethodName) prog_4_method_18_code (5 : Nat) (Option.some FieldType.long)) ∈ gT := gT_2 (List.mem_of_getElem? (i := 46) rfl) rfl
theorem t_287 : (Cond.constantLong "DotSheet$Paper" (99 : Nat) (-1 : Int64)) ∈ gT := gT_2 (List.mem_of_getElem? (i := 47) rfl) rfl
theorem t_288 : (Cond.methodLink "DotSheet$Paper" (54 : Nat) ({ cls := "DotSheet$Paper", name := "change", desc := "(IJ)V" } : MethodName)) ∈ gT := gT_2 (List.mem_of_getElem? (i := 48) rfl) rfl
theorem b_289 : (Cond.privateMethod ({ cls := "DotSheet$Paper", name := "change", desc := "(IJ)V" } : MethodName)) ∈ lw_tbl := List.mem_append_right _ (List.mem_append_right _ (List.mem_append_left _ (List.mem_of_getElem? (i := 49) rfl)))
theorem t_290 : (Cond.instanceMethod ({ cls := "DotSheet$Paper", name := "change", desc := "(IJ)V" } : MethodName)) ∈ gT := gT_2 (List.mem_of_getElem? (i := 50) rfl) rfl
theorem t_291 : (Cond.code ({ cls := "DotSheet$Paper", name := "change", desc := "(IJ)V" } : MethodName) prog_4_method_17_code (4 : Nat) (Option.none : Option FieldType)) ∈ gT := gT_2 (List.mem_of_getElem? (i := 51) rfl) rfl
theorem t_292 : (Cond.methodLink "DotSheet" (86 : Nat) ({ cls := "DotSheet$Paper", name := "drawBox", desc := "(IIII)I" } : MethodName)) ∈ gT := gT_2 (List.mem_of_getElem? (i := 52) rfl) rfl
theorem t_293 : (Cond.methodLink "DotSheetLaw" (108 : Nat) ({ cls := "DotSheetLaw", name := "line", desc := "(LDotSheet;IIIII[J)I" } : MethodName)) ∈ gT := gT_2 (List.mem_of_getElem? (i := 53) rfl) rfl
theorem t_294 : (Cond.static ({ cls := "DotSheetLaw", name := "line", desc := "(LDotSheet;IIIII[J)I" } : MethodName)) ∈ gT := gT_2 (List.mem_of_getElem? (i := 54) rfl) rfl
theorem t_295 : (Cond.codeWith ({ cls := "DotSheetLaw", name := "line", desc := "(LDotSheet;IIIII[J)I" } : MethodName) method_7_code (8 : Nat) (Option.some FieldType.int) [((0 : Nat), (16 : Nat), (19 : Nat), (13 : Nat))]) ∈ gT := gT_2 (List.mem_of_getElem? (i := 55) rfl) rfl
theorem t_296 : (Cond.methodLink "DotSheetLaw" (27 : Nat) ({ cls := "DotSheet", name := "line", desc := "(IIIII)I" } : MethodName)) ∈ gT := gT_2 (List.mem_of_getElem? (i := 56) rfl) rfl
theorem t_297 : (Cond.instanceMethod ({ cls := "DotSheet", name := "line", desc := "(IIIII)I" } : MethodName)) ∈ gT := gT_2 (List.mem_of_getElem? (i := 57) rfl) rfl
theorem t_298 : (Cond.selects "DotSheet" ({ cls := "DotSheet", name := "line", desc := "(IIIII)I" } : MethodName) ({ cls := "DotSheet", name := "line", desc := "(IIIII)I" } : MethodName)) ∈ gT := gT_2 (List.mem_of_getElem? (i := 58) rfl) rfl
theorem t_299 : (Cond.code ({ cls := "DotSheet", name := "line", desc := "(IIIII)I" } : MethodName) prog_1_method_7_code (11 : Nat) (Option.some FieldType.int)) ∈ gT := gT_2 (List.mem_of_getElem? (i := 59) rfl) rfl
theorem t_300 : (Cond.classLink "DotSheet" (93 : Nat) "DotSheet$Stroke") ∈ gT := gT_2 (List.mem_of_getElem? (i := 60) rfl) rfl
theorem t_301 : (Cond.instantiable "DotSheet$Stroke" (11 : Nat)) ∈ gT := gT_2 (List.mem_of_getElem? (i := 61) rfl) rfl
theorem t_302 : (Cond.methodLink "DotSheet" (95 : Nat) ({ cls := "DotSheet$Stroke", name := "<init>", desc := "(IIIII)V" } : MethodName)) ∈ gT := gT_2 (List.mem_of_getElem? (i := 62) rfl) rfl
theorem t_303 : (Cond.instanceMethod ({ cls := "DotSheet$Stroke", name := "<init>", desc := "(IIIII)V" } : MethodName)) ∈ gT := gT_2 (List.mem_of_getElem? (i := 63) rfl) rfl
theorem t_304 : (Cond.code ({ cls := "DotSheet$Stroke", name := "<init>", desc := "(IIIII)V" } : MethodName) prog_7_method_1_code (6 : Nat) (Option.none : Option FieldType)) ∈ gT := gT_2 (List.mem_of_getElem? (i := 64) rfl) rfl
theorem t_305 : (Cond.methodLink "DotSheet$Stroke" (1 : Nat) ({ cls := "java/lang/Object", name := "<init>", desc := "()V" } : MethodName)) ∈ gT := gT_2 (List.mem_of_getElem? (i := 65) rfl) rfl
theorem t_306 : (Cond.constantLong "DotSheet$Stroke" (35 : Nat) (4 : Int64)) ∈ gT := gT_2 (List.mem_of_getElem? (i := 66) rfl) rfl
theorem t_307 : (Cond.methodLink "DotSheet$Stroke" (37 : Nat) ({ cls := "DotSheet$Reckoning", name := "root", desc := "(J)J" } : MethodName)) ∈ gT := gT_2 (List.mem_of_getElem? (i := 67) rfl) rfl
theorem t_308 : (Cond.static ({ cls := "DotSheet$Reckoning", name := "root", desc := "(J)J" } : MethodName)) ∈ gT := gT_2 (List.mem_of_getElem? (i := 68) rfl) rfl
theorem t_309 : (Cond.code ({ cls := "DotSheet$Reckoning", name := "root", desc := "(J)J" } : MethodName) prog_5_method_2_code (8 : Nat) (Option.some FieldType.long)) ∈ gT := gT_2 (List.mem_of_getElem? (i := 69) rfl) rfl
theorem t_310 : (Cond.constantLong "DotSheet$Reckoning" (11 : Nat) (1048576 : Int64)) ∈ gT := gT_2 (List.mem_of_getElem? (i := 70) rfl) rfl
theorem t_311 : (Cond.fieldLink "DotSheet$Stroke" (7 : Nat) "DotSheet$Stroke" "a" "I") ∈ gT := gT_2 (List.mem_of_getElem? (i := 71) rfl) rfl
theorem t_312 : (Cond.fieldLink "DotSheet$Stroke" (13 : Nat) "DotSheet$Stroke" "b" "I") ∈ gT := gT_2 (List.mem_of_getElem? (i := 72) rfl) rfl
theorem t_313 : (Cond.fieldLink "DotSheet$Stroke" (16 : Nat) "DotSheet$Stroke" "c" "I") ∈ gT := gT_2 (List.mem_of_getElem? (i := 73) rfl) rfl
theorem t_314 : (Cond.fieldLink "DotSheet$Stroke" (19 : Nat) "DotSheet$Stroke" "d" "I") ∈ gT := gT_2 (List.mem_of_getElem? (i := 74) rfl) rfl
theorem t_315 : (Cond.fieldLink "DotSheet$Stroke" (22 : Nat) "DotSheet$Stroke" "thickness" "I") ∈ gT := gT_2 (List.mem_of_getElem? (i := 75) rfl) rfl
theorem t_316 : (Cond.fieldLink "DotSheet$Stroke" (25 : Nat) "DotSheet$Stroke" "dx" "J") ∈ gT := gT_2 (List.mem_of_getElem? (i := 76) rfl) rfl
theorem t_317 : (Cond.fieldLink "DotSheet$Stroke" (29 : Nat) "DotSheet$Stroke" "dy" "J") ∈ gT := gT_2 (List.mem_of_getElem? (i := 77) rfl) rfl
theorem t_318 : (Cond.fieldLink "DotSheet$Stroke" (32 : Nat) "DotSheet$Stroke" "squareLength" "J") ∈ gT := gT_2 (List.mem_of_getElem? (i := 78) rfl) rfl
theorem t_319 : (Cond.fieldLink "DotSheet$Stroke" (43 : Nat) "DotSheet$Stroke" "greatestCross" "J") ∈ gT := gT_2 (List.mem_of_getElem? (i := 79) rfl) rfl
theorem t_320 : (Cond.fieldLink "DotSheet$Stroke" (47 : Nat) "DotSheet$Stroke" "left" "I") ∈ gT := gT_2 (List.mem_of_getElem? (i := 80) rfl) rfl
theorem t_321 : (Cond.fieldLink "DotSheet" (102 : Nat) "DotSheet$Stroke" "left" "I") ∈ gT := gT_2 (List.mem_of_getElem? (i := 81) rfl) rfl
theorem t_322 : (Cond.fieldLink "DotSheet$Stroke" (51 : Nat) "DotSheet$Stroke" "right" "I") ∈ gT := gT_2 (List.mem_of_getElem? (i := 82) rfl) rfl
theorem t_323 : (Cond.fieldLink "DotSheet" (105 : Nat) "DotSheet$Stroke" "right" "I") ∈ gT := gT_2 (List.mem_of_getElem? (i := 83) rfl) rfl
theorem t_324 : (Cond.laysFinal "DotSheet$Stroke" "DotSheet$Stroke" "a" "I") ∈ gT := gT_2 (List.mem_of_getElem? (i := 84) rfl) rfl
theorem t_325 : (Cond.soleField "DotSheet$Stroke" "a") ∈ gT := gT_2 (List.mem_of_getElem? (i := 85) rfl) rfl
theorem t_326 : (Cond.laysFinal "DotSheet$Stroke" "DotSheet$Stroke" "b" "I") ∈ gT := gT_2 (List.mem_of_getElem? (i := 86) rfl) rfl
theorem t_327 : (Cond.soleField "DotSheet$Stroke" "b") ∈ gT := gT_2 (List.mem_of_getElem? (i := 87) rfl) rfl
theorem t_328 : (Cond.laysFinal "DotSheet$Stroke" "DotSheet$Stroke" "c" "I") ∈ gT := gT_2 (List.mem_of_getElem? (i := 88) rfl) rfl
theorem t_329 : (Cond.soleField "DotSheet$Stroke" "c") ∈ gT := gT_2 (List.mem_of_getElem? (i := 89) rfl) rfl
theorem t_330 : (Cond.laysFinal "DotSheet$Stroke" "DotSheet$Stroke" "d" "I") ∈ gT := gT_2 (List.mem_of_getElem? (i := 90) rfl) rfl
theorem t_331 : (Cond.soleField "DotSheet$Stroke" "d") ∈ gT := gT_2 (List.mem_of_getElem? (i := 91) rfl) rfl
theorem t_332 : (Cond.laysFinal "DotSheet$Stroke" "DotSheet$Stroke" "thickness" "I") ∈ gT := gT_2 (List.mem_of_getElem? (i := 92) rfl) rfl
theorem t_333 : (Cond.soleField "DotSheet$Stroke" "thickness") ∈ gT := gT_2 (List.mem_of_getElem? (i := 93) rfl) rfl
theorem t_334 : (Cond.laysFinal "DotSheet$Stroke" "DotSheet$Stroke" "dx" "J") ∈ gT := gT_2 (List.mem_of_getElem? (i := 94) rfl) rfl
theorem t_335 : (Cond.soleField "DotSheet$Stroke" "dx") ∈ gT := gT_2 (List.mem_of_getElem? (i := 95) rfl) rfl
theorem t_336 : (Cond.laysFinal "DotSheet$Stroke" "DotSheet$Stroke" "dy" "J") ∈ gT := gT_2 (List.mem_of_getElem? (i := 96) rfl) rfl
theorem t_337 : (Cond.soleField "DotSheet$Stroke" "dy") ∈ gT := gT_2 (List.mem_of_getElem? (i := 97) rfl) rfl
theorem t_338 : (Cond.laysFinal "DotSheet$Stroke" "DotSheet$Stroke" "squareLength" "J") ∈ gT := gT_2 (List.mem_of_getElem? (i := 98) rfl) rfl
theorem t_339 : (Cond.soleField "DotSheet$Stroke" "squareLength") ∈ gT := gT_2 (List.mem_of_getElem? (i := 99) rfl) rfl
theorem t_340 : (Cond.laysFinal "DotSheet$Stroke" "DotSheet$Stroke" "greatestCross" "J") ∈ gT := gT_2 (List.mem_of_getElem? (i := 100) rfl) rfl
theorem t_341 : (Cond.soleField "DotSheet$Stroke" "greatestCross") ∈ gT := gT_2 (List.mem_of_getElem? (i := 101) rfl) rfl
theorem t_342 : (Cond.lays "DotSheet$Stroke" "DotSheet$Stroke" "left" "I") ∈ gT := gT_2 (List.mem_of_getElem? (i := 102) rfl) rfl
theorem t_343 : (Cond.soleField "DotSheet$Stroke" "left") ∈ gT := gT_2 (List.mem_of_getElem? (i := 103) rfl) rfl
theorem t_344 : (Cond.lays "DotSheet$Stroke" "DotSheet$Stroke" "right" "I") ∈ gT := gT_2 (List.mem_of_getElem? (i := 104) rfl) rfl
theorem t_345 : (Cond.soleField "DotSheet$Stroke" "right") ∈ gT := gT_2 (List.mem_of_getElem? (i := 105) rfl) rfl
theorem t_346 : (Cond.superclass "DotSheet$Stroke" "java/lang/Object") ∈ gT := gT_2 (List.mem_of_getElem? (i := 106) rfl) rfl
theorem t_347 : (Cond.methodLink "DotSheet" (98 : Nat) ({ cls := "DotSheet$Stroke", name := "cross", desc := "(I)V" } : MethodName)) ∈ gT := gT_2 (List.mem_of_getElem? (i := 107) rfl) rfl
theorem t_348 : (Cond.instanceMethod ({ cls := "DotSheet$Stroke", name := "cross", desc := "(I)V" } : MethodName)) ∈ gT := gT_2 (List.mem_of_getElem? (i := 108) rfl) rfl
theorem t_349 : (Cond.selects "DotSheet$Stroke" ({ cls := "DotSheet$Stroke", name := "cross", desc := "(I)V" } : MethodName) ({ cls := "DotSheet$Stroke", name := "cross", desc := "(I)V" } : MethodName)) ∈ gT := gT_2 (List.mem_of_getElem? (i := 109) rfl) rfl
theorem t_350 : (Cond.code ({ cls := "DotSheet$Stroke", name := "cross", desc := "(I)V" } : MethodName) prog_7_method_2_code (2 : Nat) (Option.none : Option FieldType)) ∈ gT := gT_2 (List.mem_of_getElem? (i := 110) rfl) rfl
theorem t_351 : (Cond.constant "DotSheet$Stroke" (46 : Nat) (1048576 : Int32)) ∈ gT := gT_2 (List.mem_of_getElem? (i := 111) rfl) rfl
theorem t_352 : (Cond.constant "DotSheet$Stroke" (50 : Nat) (-1048576 : Int32)) ∈ gT := gT_2 (List.mem_of_getElem? (i := 112) rfl) rfl
theorem t_353 : (Cond.methodLink "DotSheet$Stroke" (54 : Nat) ({ cls := "DotSheet$Stroke", name := "widenByEnd", desc := "(II)V" } : MethodName)) ∈ gT := gT_2 (List.mem_of_getElem? (i := 113) rfl) rfl
theorem b_354 : (Cond.privateMethod ({ cls := "DotSheet$Stroke", name := "widenByEnd", desc := "(II)V" } : MethodName)) ∈ lw_tbl := List.mem_append_right _ (List.mem_append_right _ (List.mem_append_left _ (List.mem_of_getElem? (i := 114) rfl)))
theorem t_355 : (Cond.instanceMethod ({ cls := "DotSheet$Stroke", name := "widenByEnd", desc := "(II)V" } : MethodName)) ∈ gT := gT_2 (List.mem_of_getElem? (i := 115) rfl) rfl
theorem t_356 : (Cond.code ({ cls := "DotSheet$Stroke", name := "widenByEnd", desc := "(II)V" } : MethodName) prog_7_method_3_code (5 : Nat) (Option.none : Option FieldType)) ∈ gT := gT_2 (List.mem_of_getElem? (i := 116) rfl) rfl
theorem t_357 : (Cond.methodLink "DotSheet$Stroke" (62 : Nat) ({ cls := "DotSheet$Stroke", name := "widen", desc := "(II)V" } : MethodName)) ∈ gT := gT_2 (List.mem_of_getElem? (i := 117) rfl) rfl
theorem b_358 : (Cond.privateMethod ({ cls := "DotSheet$Stroke", name := "widen", desc := "(II)V" } : MethodName)) ∈ lw_tbl := List.mem_append_right _ (List.mem_append_right _ (List.mem_append_left _ (List.mem_of_getElem? (i := 118) rfl)))
theorem t_359 : (Cond.instanceMethod ({ cls := "DotSheet$Stroke", name := "widen", desc := "(II)V" } : MethodName)) ∈ gT := gT_2 (List.mem_of_getElem? (i := 119) rfl) rfl
theorem t_360 : (Cond.code ({ cls := "DotSheet$Stroke", name := "widen", desc := "(II)V" } : MethodName) prog_7_method_5_code (3 : Nat) (Option.none : Option FieldType)) ∈ gT := gT_2 (List.mem_of_getElem? (i := 120) rfl) rfl
theorem t_361 : (Cond.methodLink "DotSheet$Stroke" (78 : Nat) ({ cls := "java/lang/Math", name := "min", desc := "(II)I" } : MethodName)) ∈ gT := gT_2 (List.mem_of_getElem? (i := 121) rfl) rfl
theorem t_362 : (Cond.methodLink "DotSheet$Stroke" (69 : Nat) ({ cls := "java/lang/Math", name := "max", desc := "(II)I" } : MethodName)) ∈ gT := gT_2 (List.mem_of_getElem? (i := 122) rfl) rfl
theorem t_363 : (Cond.methodLink "DotSheet$Stroke" (58 : Nat) ({ cls := "DotSheet$Stroke", name := "widenBySide", desc := "(I)V" } : MethodName)) ∈ gT := gT_2 (List.mem_of_getElem? (i := 123) rfl) rfl
theorem b_364 : (Cond.privateMethod ({ cls := "DotSheet$Stroke", name := "widenBySide", desc := "(I)V" } : MethodName)) ∈ lw_tbl := List.mem_append_right _ (List.mem_append_right _ (List.mem_append_left _ (List.mem_of_getElem? (i := 124) rfl)))
theorem t_365 : (Cond.instanceMethod ({ cls := "DotSheet$Stroke", name := "widenBySide", desc := "(I)V" } : MethodName)) ∈ gT := gT_2 (List.mem_of_getElem? (i := 125) rfl) rfl
theorem t_366 : (Cond.code ({ cls := "DotSheet$Stroke", name := "widenBySide", desc := "(I)V" } : MethodName) prog_7_method_4_code (8 : Nat) (Option.none : Option FieldType)) ∈ gT := gT_2 (List.mem_of_getElem? (i := 126) rfl) rfl
theorem t_367 : (Cond.methodLink "DotSheet$Stroke" (65 : Nat) ({ cls := "DotSheet$Reckoning", name := "leastFactor", desc := "(JJJ)I" } : MethodName)) ∈ gT := gT_2 (List.mem_of_getElem? (i := 127) rfl) rfl
theorem t_368 : (Cond.static ({ cls := "DotSheet$Reckoning", name := "leastFactor", desc := "(JJJ)I" } : MethodName)) ∈ gT := gT_2 (List.mem_of_getElem? (i := 128) rfl) rfl
theorem t_369 : (Cond.code ({ cls := "DotSheet$Reckoning", name := "leastFactor", desc := "(JJJ)I" } : MethodName) prog_5_method_6_code (6 : Nat) (Option.some FieldType.int)) ∈ gT := gT_2 (List.mem_of_getElem? (i := 129) rfl) rfl
theorem t_370 : (Cond.constant "DotSheet$Reckoning" (27 : Nat) (-1048576 : Int32)) ∈ gT := gT_2 (List.mem_of_getElem? (i := 130) rfl) rfl
theorem t_371 : (Cond.constant "DotSheet$Reckoning" (28 : Nat) (1048576 : Int32)) ∈ gT := gT_2 (List.mem_of_getElem? (i := 131) rfl) rfl
theorem t_372 : (Cond.methodLink "DotSheet$Reckoning" (29 : Nat) ({ cls := "java/lang/Math", name := "floorDiv", desc := "(JJ)J" } : MethodName)) ∈ gT := gT_2 (List.mem_of_getElem? (i := 132) rfl) rfl
theorem t_373 : (Cond.static ({ cls := "java/lang/Math", name := "floorDiv", desc := "(JJ)J" } : MethodName)) ∈ gT := gT_2 (List.mem_of_getElem? (i := 133) rfl) rfl
theorem t_374 : (Cond.code ({ cls := "java/lang/Math", name := "floorDiv", desc := "(JJ)J" } : MethodName) prog_16_method_49_code (6 : Nat) (Option.some FieldType.long)) ∈ gT := gT_2 (List.mem_of_getElem? (i := 134) rfl) rfl
theorem t_375 : (Cond.methodLink "DotSheet$Reckoning" (32 : Nat) ({ cls := "DotSheet$Reckoning", name := "nearer", desc := "(J)I" } : MethodName)) ∈ gT := gT_2 (List.mem_of_getElem? (i := 135) rfl) rfl
theorem t_376 : (Cond.static ({ cls := "DotSheet$Reckoning", name := "nearer", desc := "(J)I" } : MethodName)) ∈ gT := gT_2 (List.mem_of_getElem? (i := 136) rfl) rfl
theorem t_377 : (Cond.code ({ cls := "DotSheet$Reckoning", name := "nearer", desc := "(J)I" } : MethodName) prog_5_method_8_code (2 : Nat) (Option.some FieldType.int)) ∈ gT := gT_2 (List.mem_of_getElem? (i := 137) rfl) rfl
theorem t_378 : (Cond.constantLong "DotSheet$Reckoning" (36 : Nat) (-1048576 : Int64)) ∈ gT := gT_2 (List.mem_of_getElem? (i := 138) rfl) rfl
theorem t_379 : (Cond.methodLink "DotSheet$Reckoning" (38 : Nat) ({ cls := "java/lang/Math", name := "min", desc := "(JJ)J" } : MethodName)) ∈ gT := gT_2 (List.mem_of_getElem? (i := 139) rfl) rfl
theorem t_380 : (Cond.static ({ cls := "java/lang/Math", name := "min", desc := "(JJ)J" } : MethodName)) ∈ gT := gT_2 (List.mem_of_getElem? (i := 140) rfl) rfl
theorem t_381 : (Cond.code ({ cls := "java/lang/Math", name := "min", desc := "(JJ)J" } : MethodName) prog_16_method_70_code (4 : Nat) (Option.some FieldType.long)) ∈ gT := gT_2 (List.mem_of_getElem? (i := 141) rfl) rfl
theorem t_382 : (Cond.methodLink "DotSheet$Reckoning" (41 : Nat) ({ cls := "java/lang/Math", name := "max", desc := "(JJ)J" } : MethodName)) ∈ gT := gT_2 (List.mem_of_getElem? (i := 142) rfl) rfl
theorem t_383 : (Cond.static ({ cls := "java/lang/Math", name := "max", desc := "(JJ)J" } : MethodName)) ∈ gT := gT_2 (List.mem_of_getElem? (i := 143) rfl) rfl
theorem t_384 : (Cond.code ({ cls := "java/lang/Math", name := "max", desc := "(JJ)J" } : MethodName) prog_16_method_66_code (4 : Nat) (Option.some FieldType.long)) ∈ gT := gT_2 (List.mem_of_getElem? (i := 144) rfl) rfl
theorem t_385 : (Cond.methodLink "DotSheet$Stroke" (75 : Nat) ({ cls := "DotSheet$Reckoning", name := "greatestFactor", desc := "(JJJ)I" } : MethodName)) ∈ gT := gT_2 (List.mem_of_getElem? (i := 145) rfl) rfl
theorem t_386 : (Cond.static ({ cls := "DotSheet$Reckoning", name := "greatestFactor", desc := "(JJJ)I" } : MethodName)) ∈ gT := gT_2 (List.mem_of_getElem? (i := 146) rfl) rfl
theorem t_387 : (Cond.code ({ cls := "DotSheet$Reckoning", name := "greatestFactor", desc := "(JJJ)I" } : MethodName) prog_5_method_7_code (6 : Nat) (Option.some FieldType.int)) ∈ gT := gT_2 (List.mem_of_getElem? (i := 147) rfl) rfl
theorem t_388 : (Cond.methodLink "DotSheetLaw" (111 : Nat) ({ cls := "DotSheetLaw", name := "ellipse", desc := "(LDotSheet;IIIII[J)I" } : MethodName)) ∈ gT := gT_2 (List.mem_of_getElem? (i := 148) rfl) rfl
theorem t_389 : (Cond.static ({ cls := "DotSheetLaw", name := "ellipse", desc := "(LDotSheet;IIIII[J)I" } : MethodName)) ∈ gT := gT_2 (List.mem_of_getElem? (i := 149) rfl) rfl
theorem t_390 : (Cond.codeWith ({ cls := "DotSheetLaw", name := "ellipse", desc := "(LDotSheet;IIIII[J)I" } : MethodName) method_8_code (8 : Nat) (Option.some FieldType.int) [((0 : Nat), (16 : Nat), (19 : Nat), (13 : Nat))]) ∈ gT := gT_2 (List.mem_of_getElem? (i := 150) rfl) rfl
theorem t_391 : (Cond.methodLink "DotSheetLaw" (30 : Nat) ({ cls := "DotSheet", name := "ellipse", desc := "(IIIII)I" } : MethodName)) ∈ gT := gT_2 (List.mem_of_getElem? (i := 151) rfl) rfl
theorem t_392 : (Cond.instanceMethod ({ cls := "DotSheet", name := "ellipse", desc := "(IIIII)I" } : MethodName)) ∈ gT := gT_2 (List.mem_of_getElem? (i := 152) rfl) rfl
theorem t_393 : (Cond.selects "DotSheet" ({ cls := "DotSheet", name := "ellipse", desc := "(IIIII)I" } : MethodName) ({ cls := "DotSheet", name := "ellipse", desc := "(IIIII)I" } : MethodName)) ∈ gT := gT_2 (List.mem_of_getElem? (i := 153) rfl) rfl
theorem t_394 : (Cond.code ({ cls := "DotSheet", name := "ellipse", desc := "(IIIII)I" } : MethodName) prog_1_method_8_code (12 : Nat) (Option.some FieldType.int)) ∈ gT := gT_2 (List.mem_of_getElem? (i := 154) rfl) rfl
theorem t_395 : (Cond.methodLink "DotSheet" (108 : Nat) ({ cls := "DotSheet$Reckoning", name := "ellipseReach", desc := "(III)I" } : MethodName)) ∈ gT := gT_2 (List.mem_of_getElem? (i := 155) rfl) rfl
theorem t_396 : (Cond.static ({ cls := "DotSheet$Reckoning", name := "ellipseReach", desc := "(III)I" } : MethodName)) ∈ gT := gT_2 (List.mem_of_getElem? (i := 156) rfl) rfl
theorem t_397 : (Cond.code ({ cls := "DotSheet$Reckoning", name := "ellipseReach", desc := "(III)I" } : MethodName) prog_5_method_3_code (5 : Nat) (Option.some FieldType.int)) ∈ gT := gT_2 (List.mem_of_getElem? (i := 157) rfl) rfl
theorem t_398 : (Cond.methodLink "DotSheet$Reckoning" (13 : Nat) ({ cls := "java/lang/Math", name := "abs", desc := "(I)I" } : MethodName)) ∈ gT := gT_2 (List.mem_of_getElem? (i := 158) rfl) rfl
theorem t_399 : (Cond.static ({ cls := "java/lang/Math", name := "abs", desc := "(I)I" } : MethodName)) ∈ gT := gT_2 (List.mem_of_getElem? (i := 159) rfl) rfl
theorem t_400 : (Cond.code ({ cls := "java/lang/Math", name := "abs", desc := "(I)I" } : MethodName) prog_16_method_59_code (1 : Nat) (Option.some FieldType.int)) ∈ gT := gT_2 (List.mem_of_getElem? (i := 160) rfl) rfl
theorem t_401 : (Cond.methodLink "DotSheet$Reckoning" (19 : Nat) ({ cls := "DotSheet$Reckoning", name := "root", desc := "(J)J" } : MethodName)) ∈ gT := gT_2 (List.mem_of_getElem? (i := 161) rfl) rfl
theorem t_402 : (Cond.methodLink "DotSheet" (114 : Nat) ({ cls := "DotSheet", name := "drawEllipseRow", desc := "(IIIII)I" } : MethodName)) ∈ gT := gT_2 (List.mem_of_getElem? (i := 162) rfl) rfl
theorem b_403 : (Cond.privateMethod ({ cls := "DotSheet", name := "drawEllipseRow", desc := "(IIIII)I" } : MethodName)) ∈ lw_tbl := List.mem_append_right _ (List.mem_append_right _ (List.mem_append_left _ (List.mem_of_getElem? (i := 163) rfl)))
theorem t_404 : (Cond.instanceMethod ({ cls := "DotSheet", name := "drawEllipseRow", desc := "(IIIII)I" } : MethodName)) ∈ gT := gT_2 (List.mem_of_getElem? (i := 164) rfl) rfl
theorem t_405 : (Cond.code ({ cls := "DotSheet", name := "drawEllipseRow", desc := "(IIIII)I" } : MethodName) prog_1_method_20_code (8 : Nat) (Option.some FieldType.int)) ∈ gT := gT_2 (List.mem_of_getElem? (i := 165) rfl) rfl
theorem t_406 : (Cond.methodLink "DotSheet" (217 : Nat) ({ cls := "DotSheet$Reckoning", name := "firstStep", desc := "(II)I" } : MethodName)) ∈ gT := gT_2 (List.mem_of_getElem? (i := 166) rfl) rfl
theorem t_407 : (Cond.static ({ cls := "DotSheet$Reckoning", name := "firstStep", desc := "(II)I" } : MethodName)) ∈ gT := gT_2 (List.mem_of_getElem? (i := 167) rfl) rfl
theorem t_408 : (Cond.code ({ cls := "DotSheet$Reckoning", name := "firstStep", desc := "(II)I" } : MethodName) prog_5_method_4_code (2 : Nat) (Option.some FieldType.int)) ∈ gT := gT_2 (List.mem_of_getElem? (i := 168) rfl) rfl
theorem t_409 : (Cond.methodLink "DotSheet$Reckoning" (23 : Nat) ({ cls := "java/lang/Math", name := "floorDiv", desc := "(II)I" } : MethodName)) ∈ gT := gT_2 (List.mem_of_getElem? (i := 169) rfl) rfl
theorem t_410 : (Cond.static ({ cls := "java/lang/Math", name := "floorDiv", desc := "(II)I" } : MethodName)) ∈ gT := gT_2 (List.mem_of_getElem? (i := 170) rfl) rfl
theorem t_411 : (Cond.code ({ cls := "java/lang/Math", name := "floorDiv", desc := "(II)I" } : MethodName) prog_16_method_47_code (3 : Nat) (Option.some FieldType.int)) ∈ gT := gT_2 (List.mem_of_getElem? (i := 171) rfl) rfl
theorem t_412 : (Cond.methodLink "DotSheet" (220 : Nat) ({ cls := "DotSheet$Reckoning", name := "lastStep", desc := "(II)I" } : MethodName)) ∈ gT := gT_2 (List.mem_of_getElem? (i := 172) rfl) rfl
theorem t_413 : (Cond.static ({ cls := "DotSheet$Reckoning", name := "lastStep", desc := "(II)I" } : MethodName)) ∈ gT := gT_2 (List.mem_of_getElem? (i := 173) rfl) rfl
theorem t_414 : (Cond.code ({ cls := "DotSheet$Reckoning", name := "lastStep", desc := "(II)I" } : MethodName) prog_5_method_5_code (2 : Nat) (Option.some FieldType.int)) ∈ gT := gT_2 (List.mem_of_getElem? (i := 174) rfl) rfl
theorem t_415 : (Cond.methodLink "DotSheetLaw" (114 : Nat) ({ cls := "DotSheetLaw", name := "font", desc := "(LDotSheet;IIII)I" } : MethodName)) ∈ gT := gT_2 (List.mem_of_getElem? (i := 175) rfl) rfl
theorem t_416 : (Cond.static ({ cls := "DotSheetLaw", name := "font", desc := "(LDotSheet;IIII)I" } : MethodName)) ∈ gT := gT_2 (List.mem_of_getElem? (i := 176) rfl) rfl
theorem t_417 : (Cond.codeWith ({ cls := "DotSheetLaw", name := "font", desc := "(LDotSheet;IIII)I" } : MethodName) method_9_code (6 : Nat) (Option.some FieldType.int) [((0 : Nat), (9 : Nat), (12 : Nat), (13 : Nat))]) ∈ gT := gT_2 (List.mem_of_getElem? (i := 177) rfl) rfl
theorem t_418 : (Cond.methodLink "DotSheetLaw" (33 : Nat) ({ cls := "DotSheet", name := "font", desc := "(IIII)V" } : MethodName)) ∈ gT := gT_2 (List.mem_of_getElem? (i := 178) rfl) rfl
theorem t_419 : (Cond.instanceMethod ({ cls := "DotSheet", name := "font", desc := "(IIII)V" } : MethodName)) ∈ gT := gT_2 (List.mem_of_getElem? (i := 179) rfl) rfl
theorem t_420 : (Cond.selects "DotSheet" ({ cls := "DotSheet", name := "font", desc := "(IIII)V" } : MethodName) ({ cls := "DotSheet", name := "font", desc := "(IIII)V" } : MethodName)) ∈ gT := gT_2 (List.mem_of_getElem? (i := 180) rfl) rfl
theorem t_421 : (Cond.code ({ cls := "DotSheet", name := "font", desc := "(IIII)V" } : MethodName) prog_1_method_9_code (5 : Nat) (Option.none : Option FieldType)) ∈ gT := gT_2 (List.mem_of_getElem? (i := 181) rfl) rfl
theorem t_422 : (Cond.methodLink "DotSheet" (117 : Nat) ({ cls := "DotSheet", name := "isFont", desc := "(I)Z" } : MethodName)) ∈ gT := gT_2 (List.mem_of_getElem? (i := 182) rfl) rfl
theorem t_423 : (Cond.static ({ cls := "DotSheet", name := "isFont", desc := "(I)Z" } : MethodName)) ∈ gT := gT_2 (List.mem_of_getElem? (i := 183) rfl) rfl
theorem t_424 : (Cond.code ({ cls := "DotSheet", name := "isFont", desc := "(I)Z" } : MethodName) prog_1_method_29_code (1 : Nat) (Option.some FieldType.boolean)) ∈ gT := gT_2 (List.mem_of_getElem? (i := 184) rfl) rfl
theorem t_425 : (Cond.methodLink "DotSheet" (120 : Nat) ({ cls := "DotSheet$Font", name := "renew", desc := "(III)V" } : MethodName)) ∈ gT := gT_2 (List.mem_of_getElem? (i := 185) rfl) rfl
theorem t_426 : (Cond.instanceMethod ({ cls := "DotSheet$Font", name := "renew", desc := "(III)V" } : MethodName)) ∈ gT := gT_2 (List.mem_of_getElem? (i := 186) rfl) rfl
theorem t_427 : (Cond.selects "DotSheet$Font" ({ cls := "DotSheet$Font", name := "renew", desc := "(III)V" } : MethodName) ({ cls := "DotSheet$Font", name := "renew", desc := "(III)V" } : MethodName)) ∈ gT := gT_2 (List.mem_of_getElem? (i := 187) rfl) rfl
theorem t_428 : (Cond.code ({ cls := "DotSheet$Font", name := "renew", desc := "(III)V" } : MethodName) prog_3_method_2_code (4 : Nat) (Option.none : Option FieldType)) ∈ gT := gT_2 (List.mem_of_getElem? (i := 188) rfl) rfl
theorem t_429 : (Cond.methodLink "DotSheet$Font" (23 : Nat) ({ cls := "java/util/Arrays", name := "fill", desc := "([II)V" } : MethodName)) ∈ gT := gT_2 (List.mem_of_getElem? (i := 189) rfl) rfl
theorem t_430 : (Cond.static ({ cls := "java/util/Arrays", name := "fill", desc := "([II)V" } : MethodName)) ∈ gT := gT_2 (List.mem_of_getElem? (i := 190) rfl) rfl
theorem t_431 : (Cond.code ({ cls := "java/util/Arrays", name := "fill", desc := "([II)V" } : MethodName) prog_20_method_103_code (4 : Nat) (Option.none : Option FieldType)) ∈ gT := gT_2 (List.mem_of_getElem? (i := 191) rfl) rfl
theorem t_432 : (Cond.methodLink "DotSheetLaw" (118 : Nat) ({ cls := "DotSheetLaw", name := "cell", desc := "(LDotSheet;IIII)I" } : MethodName)) ∈ gT := gT_2 (List.mem_of_getElem? (i := 192) rfl) rfl
theorem t_433 : (Cond.static ({ cls := "DotSheetLaw", name := "cell", desc := "(LDotSheet;IIII)I" } : MethodName)) ∈ gT := gT_2 (List.mem_of_getElem? (i := 193) rfl) rfl
theorem t_434 : (Cond.codeWith ({ cls := "DotSheetLaw", name := "cell", desc := "(LDotSheet;IIII)I" } : MethodName) method_10_code (6 : Nat) (Option.some FieldType.int) [((0 : Nat), (9 : Nat), (12 : Nat), (13 : Nat)), ((0 : Nat), (9 : Nat), (16 : Nat), (40 : Nat))]) ∈ gT := gT_2 (List.mem_of_getElem? (i := 194) rfl) rfl
theorem t_435 : (Cond.classLink "DotSheetLaw" (40 : Nat) "java/lang/IndexOutOfBoundsException") ∈ gT := gT_2 (List.mem_of_getElem? (i := 195) rfl) rfl
theorem t_436 : (Cond.methodLink "DotSheetLaw" (37 : Nat) ({ cls := "DotSheet", name := "cell", desc := "(IIII)V" } : MethodName)) ∈ gT := gT_2 (List.mem_of_getElem? (i := 196) rfl) rfl
theorem t_437 : (Cond.instanceMethod ({ cls := "DotSheet", name := "cell", desc := "(IIII)V" } : MethodName)) ∈ gT := gT_2 (List.mem_of_getElem? (i := 197) rfl) rfl
theorem t_438 : (Cond.selects "DotSheet" ({ cls := "DotSheet", name := "cell", desc := "(IIII)V" } : MethodName) ({ cls := "DotSheet", name := "cell", desc := "(IIII)V" } : MethodName)) ∈ gT := gT_2 (List.mem_of_getElem? (i := 198) rfl) rfl
theorem t_439 : (Cond.code ({ cls := "DotSheet", name := "cell", desc := "(IIII)V" } : MethodName) prog_1_method_10_code (5 : Nat) (Option.none : Option FieldType)) ∈ gT := gT_2 (List.mem_of_getElem? (i := 199) rfl) rfl
theorem t_440 : (Cond.classLink "DotSheet" (124 : Nat) "java/lang/IndexOutOfBoundsException") ∈ gT := gT_2 (List.mem_of_getElem? (i := 200) rfl) rfl
theorem t_441 : (Cond.instantiable "java/lang/IndexOutOfBoundsException" (6 : Nat)) ∈ gT := gT_2 (List.mem_of_getElem? (i := 201) rfl) rfl
theorem b_442 : (Cond.castable "java/lang/IndexOutOfBoundsException" "java/lang/IndexOutOfBoundsException") ∈ lw_tbl := List.mem_append_right _ (List.mem_append_right _ (List.mem_append_left _ (List.mem_of_getElem? (i := 202) rfl)))
theorem t_443 : (Cond.selects "java/lang/IndexOutOfBoundsException" ({ cls := "java/lang/Throwable", name := "fillInStackTrace", desc := "(I)Ljava/lang/Throwable;" } : MethodName) ({ cls := "java/lang/Throwable", name := "fillInStackTrace", desc := "(I)Ljava/lang/Throwable;" } : MethodName)) ∈ gT := gT_2 (List.mem_of_getElem? (i := 203) rfl) rfl
theorem t_444 : (Cond.lays "java/lang/IndexOutOfBoundsException" "java/lang/Throwable" "cause" "Ljava/lang/Throwable;") ∈ gT := gT_2 (List.mem_of_getElem? (i := 204) rfl) rfl
theorem t_445 : (Cond.lays "java/lang/IndexOutOfBoundsException" "java/lang/Throwable" "stackTrace" "[Ljava/lang/StackTraceElement;") ∈ gT := gT_2 (List.mem_of_getElem? (i := 205) rfl) rfl
theorem t_446 : (Cond.lays "java/lang/IndexOutOfBoundsException" "java/lang/Throwable" "suppressedExceptions" "Ljava/util/List;") ∈ gT := gT_2 (List.mem_of_getElem? (i := 206) rfl) rfl
theorem t_447 : (Cond.lays "java/lang/IndexOutOfBoundsException" "java/lang/Throwable" "detailMessage" "Ljava/lang/String;") ∈ gT := gT_2 (List.mem_of_getElem? (i := 207) rfl) rfl
theorem t_448 : (Cond.lays "java/lang/IndexOutOfBoundsException" "java/lang/Throwable" "backtrace" "Ljava/lang/Object;") ∈ gT := gT_2 (List.mem_of_getElem? (i := 208) rfl) rfl
theorem b_449 : (Cond.stringRef "DotSheet" (126 : Nat) "the cells have no such row") ∈ lw_tbl := List.mem_append_right _ (List.mem_append_right _ (List.mem_append_left _ (List.mem_of_getElem? (i := 209) rfl)))
theorem t_450 : (Cond.methodLink "DotSheet" (128 : Nat) ({ cls := "java/lang/IndexOutOfBoundsException", name := "<init>", desc := "(Ljava/lang/String;)V" } : MethodName)) ∈ gT := gT_2 (List.mem_of_getElem? (i := 210) rfl) rfl
theorem t_451 : (Cond.instanceMethod ({ cls := "java/lang/IndexOutOfBoundsException", name := "<init>", desc := "(Ljava/lang/String;)V" } : MethodName)) ∈ gT := gT_2 (List.mem_of_getElem? (i := 211) rfl) rfl
theorem t_452 : (Cond.code ({ cls := "java/lang/IndexOutOfBoundsException", name := "<init>", desc := "(Ljava/lang/String;)V" } : MethodName) prog_13_method_2_code (2 : Nat) (Option.none : Option FieldType)) ∈ gT := gT_2 (List.mem_of_getElem? (i := 212) rfl) rfl
theorem t_453 : (Cond.methodLink "java/lang/IndexOutOfBoundsException" (7 : Nat) ({ cls := "java/lang/RuntimeException", name := "<init>", desc := "(Ljava/lang/String;)V" } : MethodName)) ∈ gT := gT_2 (List.mem_of_getElem? (i := 213) rfl) rfl
theorem t_454 : (Cond.lays "java/lang/IndexOutOfBoundsException" "java/lang/Throwable" "depth" "I") ∈ gT := gT_2 (List.mem_of_getElem? (i := 214) rfl) rfl
theorem t_455 : (Cond.superclass "java/lang/IndexOutOfBoundsException" "java/lang/RuntimeException") ∈ gT := gT_2 (List.mem_of_getElem? (i := 215) rfl) rfl
theorem t_456 : (Cond.methodLink "DotSheet" (131 : Nat) ({ cls := "DotSheet$Font", name := "setRow", desc := "(III)V" } : MethodName)) ∈ gT := gT_2 (List.mem_of_getElem? (i := 216) rfl) rfl
theorem t_457 : (Cond.instanceMethod ({ cls := "DotSheet$Font", name := "setRow", desc := "(III)V" } : MethodName)) ∈ gT := gT_2 (List.mem_of_getElem? (i := 217) rfl) rfl
theorem t_458 : (Cond.selects "DotSheet$Font" ({ cls := "DotSheet$Font", name := "setRow", desc := "(III)V" } : MethodName) ({ cls := "DotSheet$Font", name := "setRow", desc := "(III)V" } : MethodName)) ∈ gT := gT_2 (List.mem_of_getElem? (i := 218) rfl) rfl
theorem t_459 : (Cond.code ({ cls := "DotSheet$Font", name := "setRow", desc := "(III)V" } : MethodName) prog_3_method_3_code (4 : Nat) (Option.none : Option FieldType)) ∈ gT := gT_2 (List.mem_of_getElem? (i := 219) rfl) rfl
theorem t_460 : (Cond.methodLink "DotSheetLaw" (121 : Nat) ({ cls := "DotSheetLaw", name := "text", desc := "(LDotSheet;IIIII[J)I" } : MethodName)) ∈ gT := gT_2 (List.mem_of_getElem? (i := 220) rfl) rfl
theorem t_461 : (Cond.static ({ cls := "DotSheetLaw", name := "text", desc := "(LDotSheet;IIIII[J)I" } : MethodName)) ∈ gT := gT_2 (List.mem_of_getElem? (i := 221) rfl) rfl
theorem t_462 : (Cond.codeWith ({ cls := "DotSheetLaw", name := "text", desc := "(LDotSheet;IIIII[J)I" } : MethodName) method_11_code (8 : Nat) (Option.some FieldType.int) [((0 : Nat), (16 : Nat), (19 : Nat), (13 : Nat))]) ∈ gT := gT_2 (List.mem_of_getElem? (i := 222) rfl) rfl
theorem t_463 : (Cond.methodLink "DotSheetLaw" (42 : Nat) ({ cls := "DotSheet", name := "text", desc := "(IIIII)I" } : MethodName)) ∈ gT := gT_2 (List.mem_of_getElem? (i := 223) rfl) rfl
theorem t_464 : (Cond.instanceMethod ({ cls := "DotSheet", name := "text", desc := "(IIIII)I" } : MethodName)) ∈ gT := gT_2 (List.mem_of_getElem? (i := 224) rfl) rfl
theorem t_465 : (Cond.selects "DotSheet" ({ cls := "DotSheet", name := "text", desc := "(IIIII)I" } : MethodName) ({ cls := "DotSheet", name := "text", desc := "(IIIII)I" } : MethodName)) ∈ gT := gT_2 (List.mem_of_getElem? (i := 225) rfl) rfl
theorem t_466 : (Cond.code ({ cls := "DotSheet", name := "text", desc := "(IIIII)I" } : MethodName) prog_1_method_11_code (12 : Nat) (Option.some FieldType.int)) ∈ gT := gT_2 (List.mem_of_getElem? (i := 226) rfl) rfl
theorem t_467 : (Cond.methodLink "DotSheet" (134 : Nat) ({ cls := "DotSheet", name := "demandCorner", desc := "(III)V" } : MethodName)) ∈ gT := gT_2 (List.mem_of_getElem? (i := 227) rfl) rfl
theorem t_468 : (Cond.static ({ cls := "DotSheet", name := "demandCorner", desc := "(III)V" } : MethodName)) ∈ gT := gT_2 (List.mem_of_getElem? (i := 228) rfl) rfl
theorem t_469 : (Cond.code ({ cls := "DotSheet", name := "demandCorner", desc := "(III)V" } : MethodName) prog_1_method_23_code (3 : Nat) (Option.none : Option FieldType)) ∈ gT := gT_2 (List.mem_of_getElem? (i := 229) rfl) rfl
theorem t_470 : (Cond.methodLink "DotSheet" (174 : Nat) ({ cls := "DotSheet", name := "isQuarter", desc := "(I)Z" } : MethodName)) ∈ gT := gT_2 (List.mem_of_getElem? (i := 230) rfl) rfl
theorem t_471 : (Cond.static ({ cls := "DotSheet", name := "isQuarter", desc := "(I)Z" } : MethodName)) ∈ gT := gT_2 (List.mem_of_getElem? (i := 231) rfl) rfl
theorem t_472 : (Cond.code ({ cls := "DotSheet", name := "isQuarter", desc := "(I)Z" } : MethodName) prog_1_method_28_code (1 : Nat) (Option.some FieldType.boolean)) ∈ gT := gT_2 (List.mem_of_getElem? (i := 232) rfl) rfl
theorem t_473 : (Cond.methodLink "DotSheet" (137 : Nat) ({ cls := "DotSheet$Steps", name := "startAt", desc := "(III)V" } : MethodName)) ∈ gT := gT_2 (List.mem_of_getElem? (i := 233) rfl) rfl
theorem t_474 : (Cond.instanceMethod ({ cls := "DotSheet$Steps", name := "startAt", desc := "(III)V" } : MethodName)) ∈ gT := gT_2 (List.mem_of_getElem? (i := 234) rfl) rfl
theorem t_475 : (Cond.selects "DotSheet$Steps" ({ cls := "DotSheet$Steps", name := "startAt", desc := "(III)V" } : MethodName) ({ cls := "DotSheet$Steps", name := "startAt", desc := "(III)V" } : MethodName)) ∈ gT := gT_2 (List.mem_of_getElem? (i := 235) rfl) rfl
theorem t_476 : (Cond.code ({ cls := "DotSheet$Steps", name := "startAt", desc := "(III)V" } : MethodName) prog_6_method_2_code (4 : Nat) (Option.none : Option FieldType)) ∈ gT := gT_2 (List.mem_of_getElem? (i := 236) rfl) rfl
theorem t_477 : (Cond.methodLink "DotSheet" (146 : Nat) ({ cls := "DotSheet$Steps", name := "touchPaper", desc := "(IIII)Z" } : MethodName)) ∈ gT := gT_2 (List.mem_of_getElem? (i := 237) rfl) rfl
theorem t_478 : (Cond.instanceMethod ({ cls := "DotSheet$Steps", name := "touchPaper", desc := "(IIII)Z" } : MethodName)) ∈ gT := gT_2 (List.mem_of_getElem? (i := 238) rfl) rfl
theorem t_479 : (Cond.selects "DotSheet$Steps" ({ cls := "DotSheet$Steps", name := "touchPaper", desc := "(IIII)Z" } : MethodName) ({ cls := "DotSheet$Steps", name := "touchPaper", desc := "(IIII)Z" } : MethodName)) ∈ gT := gT_2 (List.mem_of_getElem? (i := 239) rfl) rfl
theorem t_480 : (Cond.code ({ cls := "DotSheet$Steps", name := "touchPaper", desc := "(IIII)Z" } : MethodName) prog_6_method_4_code (5 : Nat) (Option.some FieldType.boolean)) ∈ gT := gT_3 (List.mem_of_getElem? (i := 0) rfl) rfl
theorem t_481 : (Cond.methodLink "DotSheet$Steps" (23 : Nat) ({ cls := "DotSheet$Steps", name := "place", desc := "(IIII)V" } : MethodName)) ∈ gT := gT_3 (List.mem_of_getElem? (i := 1) rfl) rfl
theorem b_482 : (Cond.privateMethod ({ cls := "DotSheet$Steps", name := "place", desc := "(IIII)V" } : MethodName)) ∈ lw_tbl := List.mem_append_right _ (List.mem_append_right _ (List.mem_append_right _ (List.mem_append_left _ (List.mem_of_getElem? (i := 2) rfl))))
theorem t_483 : (Cond.instanceMethod ({ cls := "DotSheet$Steps", name := "place", desc := "(IIII)V" } : MethodName)) ∈ gT := gT_3 (List.mem_of_getElem? (i := 3) rfl) rfl
theorem t_484 : (Cond.code ({ cls := "DotSheet$Steps", name := "place", desc := "(IIII)V" } : MethodName) prog_6_method_5_code (5 : Nat) (Option.none : Option FieldType)) ∈ gT := gT_3 (List.mem_of_getElem? (i := 4) rfl) rfl
theorem t_485 : (Cond.methodLink "DotSheet$Steps" (49 : Nat) ({ cls := "DotSheet$Steps", name := "bound", desc := "(IIII)V" } : MethodName)) ∈ gT := gT_3 (List.mem_of_getElem? (i := 5) rfl) rfl
theorem b_486 : (Cond.privateMethod ({ cls := "DotSheet$Steps", name := "bound", desc := "(IIII)V" } : MethodName)) ∈ lw_tbl := List.mem_append_right _ (List.mem_append_right _ (List.mem_append_right _ (List.mem_append_left _ (List.mem_of_getElem? (i := 6) rfl))))
theorem t_487 : (Cond.instanceMethod ({ cls := "DotSheet$Steps", name := "bound", desc := "(IIII)V" } : MethodName)) ∈ gT := gT_3 (List.mem_of_getElem? (i := 7) rfl) rfl
theorem t_488 : (Cond.code ({ cls := "DotSheet$Steps", name := "bound", desc := "(IIII)V" } : MethodName) prog_6_method_6_code (5 : Nat) (Option.none : Option FieldType)) ∈ gT := gT_3 (List.mem_of_getElem? (i := 8) rfl) rfl
theorem t_489 : (Cond.methodLink "DotSheet$Steps" (45 : Nat) ({ cls := "DotSheet$Paper", name := "touches", desc := "(IIII)Z" } : MethodName)) ∈ gT := gT_3 (List.mem_of_getElem? (i := 9) rfl) rfl
theorem t_490 : (Cond.instanceMethod ({ cls := "DotSheet$Paper", name := "touches", desc := "(IIII)Z" } : MethodName)) ∈ gT := gT_3 (List.mem_of_getElem? (i := 10) rfl) rfl
theorem t_491 : (Cond.selects "DotSheet$Paper" ({ cls := "DotSheet$Paper", name := "touches", desc := "(IIII)Z" } : MethodName) ({ cls := "DotSheet$Paper", name := "touches", desc := "(IIII)Z" } : MethodName)) ∈ gT := gT_3 (List.mem_of_getElem? (i := 11) rfl) rfl
theorem t_492 : (Cond.code ({ cls := "DotSheet$Paper", name := "touches", desc := "(IIII)Z" } : MethodName) prog_4_method_5_code (5 : Nat) (Option.some FieldType.boolean)) ∈ gT := gT_3 (List.mem_of_getElem? (i := 12) rfl) rfl
theorem t_493 : (Cond.methodLink "DotSheet" (150 : Nat) ({ cls := "DotSheet$Draft", name := "byteAt", desc := "(I)I" } : MethodName)) ∈ gT := gT_3 (List.mem_of_getElem? (i := 13) rfl) rfl
theorem t_494 : (Cond.instanceMethod ({ cls := "DotSheet$Draft", name := "byteAt", desc := "(I)I" } : MethodName)) ∈ gT := gT_3 (List.mem_of_getElem? (i := 14) rfl) rfl
theorem t_495 : (Cond.selects "DotSheet$Draft" ({ cls := "DotSheet$Draft", name := "byteAt", desc := "(I)I" } : MethodName) ({ cls := "DotSheet$Draft", name := "byteAt", desc := "(I)I" } : MethodName)) ∈ gT := gT_3 (List.mem_of_getElem? (i := 15) rfl) rfl
theorem t_496 : (Cond.code ({ cls := "DotSheet$Draft", name := "byteAt", desc := "(I)I" } : MethodName) prog_2_method_3_code (2 : Nat) (Option.some FieldType.int)) ∈ gT := gT_3 (List.mem_of_getElem? (i := 16) rfl) rfl
theorem t_497 : (Cond.methodLink "DotSheet" (154 : Nat) ({ cls := "DotSheet", name := "drawCell", desc := "(LDotSheet$Font;IIII)I" } : MethodName)) ∈ gT := gT_3 (List.mem_of_getElem? (i := 17) rfl) rfl
theorem b_498 : (Cond.privateMethod ({ cls := "DotSheet", name := "drawCell", desc := "(LDotSheet$Font;IIII)I" } : MethodName)) ∈ lw_tbl := List.mem_append_right _ (List.mem_append_right _ (List.mem_append_right _ (List.mem_append_left _ (List.mem_of_getElem? (i := 18) rfl))))
theorem t_499 : (Cond.instanceMethod ({ cls := "DotSheet", name := "drawCell", desc := "(LDotSheet$Font;IIII)I" } : MethodName)) ∈ gT := gT_3 (List.mem_of_getElem? (i := 19) rfl) rfl
theorem t_500 : (Cond.code ({ cls := "DotSheet", name := "drawCell", desc := "(LDotSheet$Font;IIII)I" } : MethodName) prog_1_method_21_code (9 : Nat) (Option.some FieldType.int)) ∈ gT := gT_3 (List.mem_of_getElem? (i := 20) rfl) rfl
theorem t_501 : (Cond.methodLink "DotSheet" (223 : Nat) ({ cls := "DotSheet$Font", name := "isDark", desc := "(III)Z" } : MethodName)) ∈ gT := gT_3 (List.mem_of_getElem? (i := 21) rfl) rfl
theorem t_502 : (Cond.instanceMethod ({ cls := "DotSheet$Font", name := "isDark", desc := "(III)Z" } : MethodName)) ∈ gT := gT_3 (List.mem_of_getElem? (i := 22) rfl) rfl
theorem t_503 : (Cond.selects "DotSheet$Font" ({ cls := "DotSheet$Font", name := "isDark", desc := "(III)Z" } : MethodName) ({ cls := "DotSheet$Font", name := "isDark", desc := "(III)Z" } : MethodName)) ∈ gT := gT_3 (List.mem_of_getElem? (i := 23) rfl) rfl
theorem t_504 : (Cond.code ({ cls := "DotSheet$Font", name := "isDark", desc := "(III)Z" } : MethodName) prog_3_method_4_code (4 : Nat) (Option.some FieldType.boolean)) ∈ gT := gT_3 (List.mem_of_getElem? (i := 24) rfl) rfl
theorem t_505 : (Cond.methodLink "DotSheet" (161 : Nat) ({ cls := "DotSheet$Steps", name := "drawBlock", desc := "(IIII)I" } : MethodName)) ∈ gT := gT_3 (List.mem_of_getElem? (i := 25) rfl) rfl
theorem t_506 : (Cond.instanceMethod ({ cls := "DotSheet$Steps", name := "drawBlock", desc := "(IIII)I" } : MethodName)) ∈ gT := gT_3 (List.mem_of_getElem? (i := 26) rfl) rfl
theorem t_507 : (Cond.selects "DotSheet$Steps" ({ cls := "DotSheet$Steps", name := "drawBlock", desc := "(IIII)I" } : MethodName) ({ cls := "DotSheet$Steps", name := "drawBlock", desc := "(IIII)I" } : MethodName)) ∈ gT := gT_3 (List.mem_of_getElem? (i := 27) rfl) rfl
theorem t_508 : (Cond.code ({ cls := "DotSheet$Steps", name := "drawBlock", desc := "(IIII)I" } : MethodName) prog_6_method_3_code (5 : Nat) (Option.some FieldType.int)) ∈ gT := gT_3 (List.mem_of_getElem? (i := 28) rfl) rfl
theorem t_509 : (Cond.methodLink "DotSheet$Steps" (39 : Nat) ({ cls := "DotSheet$Paper", name := "drawBox", desc := "(IIII)I" } : MethodName)) ∈ gT := gT_3 (List.mem_of_getElem? (i := 29) rfl) rfl
theorem t_510 : (Cond.methodLink "DotSheetLaw" (124 : Nat) ({ cls := "DotSheetLaw", name := "bars", desc := "(LDotSheet;IIIII[J)I" } : MethodName)) ∈ gT := gT_3 (List.mem_of_getElem? (i := 30) rfl) rfl
theorem t_511 : (Cond.static ({ cls := "DotSheetLaw", name := "bars", desc := "(LDotSheet;IIIII[J)I" } : MethodName)) ∈ gT := gT_3 (List.mem_of_getElem? (i := 31) rfl) rfl
theorem t_512 : (Cond.codeWith ({ cls := "DotSheetLaw", name := "bars", desc := "(LDotSheet;IIIII[J)I" } : MethodName) method_12_code (8 : Nat) (Option.some FieldType.int) [((0 : Nat), (16 : Nat), (19 : Nat), (13 : Nat))]) ∈ gT := gT_3 (List.mem_of_getElem? (i := 32) rfl) rfl
theorem t_513 : (Cond.methodLink "DotSheetLaw" (45 : Nat) ({ cls := "DotSheet", name := "bars", desc := "(IIIII)I" } : MethodName)) ∈ gT := gT_3 (List.mem_of_getElem? (i := 33) rfl) rfl
theorem t_514 : (Cond.instanceMethod ({ cls := "DotSheet", name := "bars", desc := "(IIIII)I" } : MethodName)) ∈ gT := gT_3 (List.mem_of_getElem? (i := 34) rfl) rfl
theorem t_515 : (Cond.selects "DotSheet" ({ cls := "DotSheet", name := "bars", desc := "(IIIII)I" } : MethodName) ({ cls := "DotSheet", name := "bars", desc := "(IIIII)I" } : MethodName)) ∈ gT := gT_3 (List.mem_of_getElem? (i := 35) rfl) rfl
theorem t_516 : (Cond.code ({ cls := "DotSheet", name := "bars", desc := "(IIIII)I" } : MethodName) prog_1_method_12_code (10 : Nat) (Option.some FieldType.int)) ∈ gT := gT_3 (List.mem_of_getElem? (i := 36) rfl) rfl
theorem t_517 : (Cond.methodLink "DotSheetLaw" (127 : Nat) ({ cls := "DotSheetLaw", name := "square", desc := "(LDotSheet;IIIII[J)I" } : MethodName)) ∈ gT := gT_3 (List.mem_of_getElem? (i := 37) rfl) rfl
theorem t_518 : (Cond.static ({ cls := "DotSheetLaw", name := "square", desc := "(LDotSheet;IIIII[J)I" } : MethodName)) ∈ gT := gT_3 (List.mem_of_getElem? (i := 38) rfl) rfl
theorem t_519 : (Cond.codeWith ({ cls := "DotSheetLaw", name := "square", desc := "(LDotSheet;IIIII[J)I" } : MethodName) method_13_code (8 : Nat) (Option.some FieldType.int) [((0 : Nat), (16 : Nat), (19 : Nat), (13 : Nat)), ((0 : Nat), (16 : Nat), (23 : Nat), (51 : Nat))]) ∈ gT := gT_3 (List.mem_of_getElem? (i := 39) rfl) rfl
theorem t_520 : (Cond.classLink "DotSheetLaw" (51 : Nat) "java/lang/IllegalStateException") ∈ gT := gT_3 (List.mem_of_getElem? (i := 40) rfl) rfl
theorem t_521 : (Cond.methodLink "DotSheetLaw" (48 : Nat) ({ cls := "DotSheet", name := "square", desc := "(IIIII)I" } : MethodName)) ∈ gT := gT_3 (List.mem_of_getElem? (i := 41) rfl) rfl
theorem t_522 : (Cond.instanceMethod ({ cls := "DotSheet", name := "square", desc := "(IIIII)I" } : MethodName)) ∈ gT := gT_3 (List.mem_of_getElem? (i := 42) rfl) rfl
theorem t_523 : (Cond.selects "DotSheet" ({ cls := "DotSheet", name := "square", desc := "(IIIII)I" } : MethodName) ({ cls := "DotSheet", name := "square", desc := "(IIIII)I" } : MethodName)) ∈ gT := gT_3 (List.mem_of_getElem? (i := 43) rfl) rfl
theorem t_524 : (Cond.code ({ cls := "DotSheet", name := "square", desc := "(IIIII)I" } : MethodName) prog_1_method_13_code (9 : Nat) (Option.some FieldType.int)) ∈ gT := gT_3 (List.mem_of_getElem? (i := 44) rfl) rfl
theorem t_525 : (Cond.classLink "DotSheet" (164 : Nat) "java/lang/IllegalStateException") ∈ gT := gT_3 (List.mem_of_getElem? (i := 45) rfl) rfl
theorem t_526 : (Cond.instantiable "java/lang/IllegalStateException" (6 : Nat)) ∈ gT := gT_3 (List.mem_of_getElem? (i := 46) rfl) rfl
theorem b_527 : (Cond.castable "java/lang/IllegalStateException" "java/lang/IllegalStateException") ∈ lw_tbl := List.mem_append_right _ (List.mem_append_right _ (List.mem_append_right _ (List.mem_append_left _ (List.mem_of_getElem? (i := 47) rfl))))
theorem t_528 : (Cond.selects "java/lang/IllegalStateException" ({ cls := "java/lang/Throwable", name := "fillInStackTrace", desc := "(I)Ljava/lang/Throwable;" } : MethodName) ({ cls := "java/lang/Throwable", name := "fillInStackTrace", desc := "(I)Ljava/lang/Throwable;" } : MethodName)) ∈ gT := gT_3 (List.mem_of_getElem? (i := 48) rfl) rfl
theorem t_529 : (Cond.lays "java/lang/IllegalStateException" "java/lang/Throwable" "cause" "Ljava/lang/Throwable;") ∈ gT := gT_3 (List.mem_of_getElem? (i := 49) rfl) rfl
theorem t_530 : (Cond.lays "java/lang/IllegalStateException" "java/lang/Throwable" "stackTrace" "[Ljava/lang/StackTraceElement;") ∈ gT := gT_3 (List.mem_of_getElem? (i := 50) rfl) rfl
theorem t_531 : (Cond.lays "java/lang/IllegalStateException" "java/lang/Throwable" "suppressedExceptions" "Ljava/util/List;") ∈ gT := gT_3 (List.mem_of_getElem? (i := 51) rfl) rfl
theorem t_532 : (Cond.lays "java/lang/IllegalStateException" "java/lang/Throwable" "detailMessage" "Ljava/lang/String;") ∈ gT := gT_3 (List.mem_of_getElem? (i := 52) rfl) rfl
theorem t_533 : (Cond.lays "java/lang/IllegalStateException" "java/lang/Throwable" "backtrace" "Ljava/lang/Object;") ∈ gT := gT_3 (List.mem_of_getElem? (i := 53) rfl) rfl
theorem b_534 : (Cond.stringRef "DotSheet" (166 : Nat) "the draft has too few bits") ∈ lw_tbl := List.mem_append_right _ (List.mem_append_right _ (List.mem_append_right _ (List.mem_append_left _ (List.mem_of_getElem? (i := 54) rfl))))
theorem t_535 : (Cond.methodLink "DotSheet" (168 : Nat) ({ cls := "java/lang/IllegalStateException", name := "<init>", desc := "(Ljava/lang/String;)V" } : MethodName)) ∈ gT := gT_3 (List.mem_of_getElem? (i := 55) rfl) rfl
theorem t_536 : (Cond.instanceMethod ({ cls := "java/lang/IllegalStateException", name := "<init>", desc := "(Ljava/lang/String;)V" } : MethodName)) ∈ gT := gT_3 (List.mem_of_getElem? (i := 56) rfl) rfl
theorem t_537 : (Cond.code ({ cls := "java/lang/IllegalStateException", name := "<init>", desc := "(Ljava/lang/String;)V" } : MethodName) prog_12_method_2_code (2 : Nat) (Option.none : Option FieldType)) ∈ gT := gT_3 (List.mem_of_getElem? (i := 57) rfl) rfl
theorem t_538 : (Cond.methodLink "java/lang/IllegalStateException" (7 : Nat) ({ cls := "java/lang/RuntimeException", name := "<init>", desc := "(Ljava/lang/String;)V" } : MethodName)) ∈ gT := gT_3 (List.mem_of_getElem? (i := 58) rfl) rfl
theorem t_539 : (Cond.lays "java/lang/IllegalStateException" "java/lang/Throwable" "depth" "I") ∈ gT := gT_3 (List.mem_of_getElem? (i := 59) rfl) rfl
theorem t_540 : (Cond.superclass "java/lang/IllegalStateException" "java/lang/RuntimeException") ∈ gT := gT_3 (List.mem_of_getElem? (i := 60) rfl) rfl
theorem t_541 : (Cond.methodLink "DotSheet" (169 : Nat) ({ cls := "DotSheet$Draft", name := "hasBit", desc := "(I)Z" } : MethodName)) ∈ gT := gT_3 (List.mem_of_getElem? (i := 61) rfl) rfl
theorem t_542 : (Cond.instanceMethod ({ cls := "DotSheet$Draft", name := "hasBit", desc := "(I)Z" } : MethodName)) ∈ gT := gT_3 (List.mem_of_getElem? (i := 62) rfl) rfl
theorem t_543 : (Cond.selects "DotSheet$Draft" ({ cls := "DotSheet$Draft", name := "hasBit", desc := "(I)Z" } : MethodName) ({ cls := "DotSheet$Draft", name := "hasBit", desc := "(I)Z" } : MethodName)) ∈ gT := gT_3 (List.mem_of_getElem? (i := 63) rfl) rfl
theorem t_544 : (Cond.code ({ cls := "DotSheet$Draft", name := "hasBit", desc := "(I)Z" } : MethodName) prog_2_method_4_code (2 : Nat) (Option.some FieldType.boolean)) ∈ gT := gT_3 (List.mem_of_getElem? (i := 64) rfl) rfl
theorem t_545 : (Cond.methodLink "DotSheet$Draft" (17 : Nat) ({ cls := "DotSheet$Draft", name := "byteAt", desc := "(I)I" } : MethodName)) ∈ gT := gT_3 (List.mem_of_getElem? (i := 65) rfl) rfl
theorem t_546 : (Cond.methodLink "DotSheetLaw" (130 : Nat) ({ cls := "DotSheetLaw", name := "picture", desc := "(LDotSheet;III[J)I" } : MethodName)) ∈ gT := gT_3 (List.mem_of_getElem? (i := 66) rfl) rfl
theorem t_547 : (Cond.static ({ cls := "DotSheetLaw", name := "picture", desc := "(LDotSheet;III[J)I" } : MethodName)) ∈ gT := gT_3 (List.mem_of_getElem? (i := 67) rfl) rfl
theorem t_548 : (Cond.codeWith ({ cls := "DotSheetLaw", name := "picture", desc := "(LDotSheet;III[J)I" } : MethodName) method_14_code (6 : Nat) (Option.some FieldType.int) [((0 : Nat), (12 : Nat), (15 : Nat), (13 : Nat)), ((0 : Nat), (12 : Nat), (19 : Nat), (51 : Nat))]) ∈ gT := gT_3 (List.mem_of_getElem? (i := 68) rfl) rfl
theorem t_549 : (Cond.methodLink "DotSheetLaw" (53 : Nat) ({ cls := "DotSheet", name := "picture", desc := "(III)I" } : MethodName)) ∈ gT := gT_3 (List.mem_of_getElem? (i := 69) rfl) rfl
theorem t_550 : (Cond.instanceMethod ({ cls := "DotSheet", name := "picture", desc := "(III)I" } : MethodName)) ∈ gT := gT_3 (List.mem_of_getElem? (i := 70) rfl) rfl
theorem t_551 : (Cond.selects "DotSheet" ({ cls := "DotSheet", name := "picture", desc := "(III)I" } : MethodName) ({ cls := "DotSheet", name := "picture", desc := "(III)I" } : MethodName)) ∈ gT := gT_3 (List.mem_of_getElem? (i := 71) rfl) rfl
theorem t_552 : (Cond.code ({ cls := "DotSheet", name := "picture", desc := "(III)I" } : MethodName) prog_1_method_14_code (9 : Nat) (Option.some FieldType.int)) ∈ gT := gT_3 (List.mem_of_getElem? (i := 72) rfl) rfl
theorem b_553 : (Cond.stringRef "DotSheet" (172 : Nat) "the last row is not whole") ∈ lw_tbl := List.mem_append_right _ (List.mem_append_right _ (List.mem_append_right _ (List.mem_append_left _ (List.mem_of_getElem? (i := 73) rfl))))
theorem t_554 : (Cond.methodLink "DotSheetLaw" (134 : Nat) ({ cls := "DotSheetLaw", name := "turn", desc := "(LDotSheet;I)I" } : MethodName)) ∈ gT := gT_3 (List.mem_of_getElem? (i := 74) rfl) rfl
theorem t_555 : (Cond.static ({ cls := "DotSheetLaw", name := "turn", desc := "(LDotSheet;I)I" } : MethodName)) ∈ gT := gT_3 (List.mem_of_getElem? (i := 75) rfl) rfl
theorem t_556 : (Cond.codeWith ({ cls := "DotSheetLaw", name := "turn", desc := "(LDotSheet;I)I" } : MethodName) method_15_code (3 : Nat) (Option.some FieldType.int) [((0 : Nat), (5 : Nat), (8 : Nat), (13 : Nat))]) ∈ gT := gT_3 (List.mem_of_getElem? (i := 76) rfl) rfl
theorem t_557 : (Cond.methodLink "DotSheetLaw" (57 : Nat) ({ cls := "DotSheet", name := "turn", desc := "(I)V" } : MethodName)) ∈ gT := gT_3 (List.mem_of_getElem? (i := 77) rfl) rfl
theorem t_558 : (Cond.instanceMethod ({ cls := "DotSheet", name := "turn", desc := "(I)V" } : MethodName)) ∈ gT := gT_3 (List.mem_of_getElem? (i := 78) rfl) rfl
theorem t_559 : (Cond.selects "DotSheet" ({ cls := "DotSheet", name := "turn", desc := "(I)V" } : MethodName) ({ cls := "DotSheet", name := "turn", desc := "(I)V" } : MethodName)) ∈ gT := gT_3 (List.mem_of_getElem? (i := 79) rfl) rfl
theorem t_560 : (Cond.code ({ cls := "DotSheet", name := "turn", desc := "(I)V" } : MethodName) prog_1_method_15_code (3 : Nat) (Option.none : Option FieldType)) ∈ gT := gT_3 (List.mem_of_getElem? (i := 80) rfl) rfl
theorem t_561 : (Cond.methodLink "DotSheet" (177 : Nat) ({ cls := "DotSheet$Paper", name := "turnRight", desc := "()V" } : MethodName)) ∈ gT := gT_3 (List.mem_of_getElem? (i := 81) rfl) rfl
theorem t_562 : (Cond.instanceMethod ({ cls := "DotSheet$Paper", name := "turnRight", desc := "()V" } : MethodName)) ∈ gT := gT_3 (List.mem_of_getElem? (i := 82) rfl) rfl
theorem t_563 : (Cond.selects "DotSheet$Paper" ({ cls := "DotSheet$Paper", name := "turnRight", desc := "()V" } : MethodName) ({ cls := "DotSheet$Paper", name := "turnRight", desc := "()V" } : MethodName)) ∈ gT := gT_3 (List.mem_of_getElem? (i := 83) rfl) rfl
theorem t_564 : (Cond.code ({ cls := "DotSheet$Paper", name := "turnRight", desc := "()V" } : MethodName) prog_4_method_15_code (3 : Nat) (Option.none : Option FieldType)) ∈ gT := gT_3 (List.mem_of_getElem? (i := 84) rfl) rfl
theorem t_565 : (Cond.methodLink "DotSheet$Paper" (86 : Nat) ({ cls := "DotSheet$Paper", name := "takeBlock", desc := "(II)V" } : MethodName)) ∈ gT := gT_3 (List.mem_of_getElem? (i := 85) rfl) rfl
theorem b_566 : (Cond.privateMethod ({ cls := "DotSheet$Paper", name := "takeBlock", desc := "(II)V" } : MethodName)) ∈ lw_tbl := List.mem_append_right _ (List.mem_append_right _ (List.mem_append_right _ (List.mem_append_left _ (List.mem_of_getElem? (i := 86) rfl))))
theorem t_567 : (Cond.instanceMethod ({ cls := "DotSheet$Paper", name := "takeBlock", desc := "(II)V" } : MethodName)) ∈ gT := gT_3 (List.mem_of_getElem? (i := 87) rfl) rfl
theorem t_568 : (Cond.code ({ cls := "DotSheet$Paper", name := "takeBlock", desc := "(II)V" } : MethodName) prog_4_method_21_code (5 : Nat) (Option.none : Option FieldType)) ∈ gT := gT_3 (List.mem_of_getElem? (i := 88) rfl) rfl
theorem t_569 : (Cond.methodLink "DotSheet$Paper" (90 : Nat) ({ cls := "DotSheet$Paper", name := "transposeBlock", desc := "()V" } : MethodName)) ∈ gT := gT_3 (List.mem_of_getElem? (i := 89) rfl) rfl
theorem b_570 : (Cond.privateMethod ({ cls := "DotSheet$Paper", name := "transposeBlock", desc := "()V" } : MethodName)) ∈ lw_tbl := List.mem_append_right _ (List.mem_append_right _ (List.mem_append_right _ (List.mem_append_left _ (List.mem_of_getElem? (i := 90) rfl))))
theorem t_571 : (Cond.instanceMethod ({ cls := "DotSheet$Paper", name := "transposeBlock", desc := "()V" } : MethodName)) ∈ gT := gT_3 (List.mem_of_getElem? (i := 91) rfl) rfl
theorem t_572 : (Cond.code ({ cls := "DotSheet$Paper", name := "transposeBlock", desc := "()V" } : MethodName) prog_4_method_23_code (7 : Nat) (Option.none : Option FieldType)) ∈ gT := gT_3 (List.mem_of_getElem? (i := 92) rfl) rfl
theorem t_573 : (Cond.constantLong "DotSheet$Paper" (101 : Nat) (4294967295 : Int64)) ∈ gT := gT_3 (List.mem_of_getElem? (i := 93) rfl) rfl
theorem t_574 : (Cond.methodLink "DotSheet$Paper" (93 : Nat) ({ cls := "DotSheet$Paper", name := "putBlock", desc := "(II)V" } : MethodName)) ∈ gT := gT_3 (List.mem_of_getElem? (i := 94) rfl) rfl
theorem b_575 : (Cond.privateMethod ({ cls := "DotSheet$Paper", name := "putBlock", desc := "(II)V" } : MethodName)) ∈ lw_tbl := List.mem_append_right _ (List.mem_append_right _ (List.mem_append_right _ (List.mem_append_left _ (List.mem_of_getElem? (i := 95) rfl))))
theorem t_576 : (Cond.instanceMethod ({ cls := "DotSheet$Paper", name := "putBlock", desc := "(II)V" } : MethodName)) ∈ gT := gT_3 (List.mem_of_getElem? (i := 96) rfl) rfl
theorem t_577 : (Cond.code ({ cls := "DotSheet$Paper", name := "putBlock", desc := "(II)V" } : MethodName) prog_4_method_22_code (4 : Nat) (Option.none : Option FieldType)) ∈ gT := gT_3 (List.mem_of_getElem? (i := 97) rfl) rfl
theorem t_578 : (Cond.methodLink "DotSheetLaw" (138 : Nat) ({ cls := "DotSheetLaw", name := "told", desc := "(LDotSheet;I[J)I" } : MethodName)) ∈ gT := gT_3 (List.mem_of_getElem? (i := 98) rfl) rfl
theorem t_579 : (Cond.static ({ cls := "DotSheetLaw", name := "told", desc := "(LDotSheet;I[J)I" } : MethodName)) ∈ gT := gT_3 (List.mem_of_getElem? (i := 99) rfl) rfl
theorem t_580 : (Cond.codeWith ({ cls := "DotSheetLaw", name := "told", desc := "(LDotSheet;I[J)I" } : MethodName) method_16_code (4 : Nat) (Option.some FieldType.int) [((0 : Nat), (9 : Nat), (12 : Nat), (13 : Nat))]) ∈ gT := gT_3 (List.mem_of_getElem? (i := 100) rfl) rfl
theorem t_581 : (Cond.methodLink "DotSheetLaw" (61 : Nat) ({ cls := "DotSheet", name := "told", desc := "(I)I" } : MethodName)) ∈ gT := gT_3 (List.mem_of_getElem? (i := 101) rfl) rfl
theorem t_582 : (Cond.instanceMethod ({ cls := "DotSheet", name := "told", desc := "(I)I" } : MethodName)) ∈ gT := gT_3 (List.mem_of_getElem? (i := 102) rfl) rfl
theorem t_583 : (Cond.selects "DotSheet" ({ cls := "DotSheet", name := "told", desc := "(I)I" } : MethodName) ({ cls := "DotSheet", name := "told", desc := "(I)I" } : MethodName)) ∈ gT := gT_3 (List.mem_of_getElem? (i := 103) rfl) rfl
theorem t_584 : (Cond.code ({ cls := "DotSheet", name := "told", desc := "(I)I" } : MethodName) prog_1_method_16_code (2 : Nat) (Option.some FieldType.int)) ∈ gT := gT_3 (List.mem_of_getElem? (i := 104) rfl) rfl
theorem t_585 : (Cond.methodLink "DotSheet" (181 : Nat) ({ cls := "DotSheet$Paper", name := "leastX", desc := "()I" } : MethodName)) ∈ gT := gT_3 (List.mem_of_getElem? (i := 105) rfl) rfl
theorem t_586 : (Cond.instanceMethod ({ cls := "DotSheet$Paper", name := "leastX", desc := "()I" } : MethodName)) ∈ gT := gT_3 (List.mem_of_getElem? (i := 106) rfl) rfl
theorem t_587 : (Cond.selects "DotSheet$Paper" ({ cls := "DotSheet$Paper", name := "leastX", desc := "()I" } : MethodName) ({ cls := "DotSheet$Paper", name := "leastX", desc := "()I" } : MethodName)) ∈ gT := gT_3 (List.mem_of_getElem? (i := 107) rfl) rfl
theorem t_588 : (Cond.code ({ cls := "DotSheet$Paper", name := "leastX", desc := "()I" } : MethodName) prog_4_method_9_code (4 : Nat) (Option.some FieldType.int)) ∈ gT := gT_3 (List.mem_of_getElem? (i := 108) rfl) rfl
theorem t_589 : (Cond.methodLink "DotSheet$Paper" (68 : Nat) ({ cls := "DotSheet$Paper", name := "allOfColumn", desc := "(I)J" } : MethodName)) ∈ gT := gT_3 (List.mem_of_getElem? (i := 109) rfl) rfl
theorem b_590 : (Cond.privateMethod ({ cls := "DotSheet$Paper", name := "allOfColumn", desc := "(I)J" } : MethodName)) ∈ lw_tbl := List.mem_append_right _ (List.mem_append_right _ (List.mem_append_right _ (List.mem_append_left _ (List.mem_of_getElem? (i := 110) rfl))))
theorem t_591 : (Cond.instanceMethod ({ cls := "DotSheet$Paper", name := "allOfColumn", desc := "(I)J" } : MethodName)) ∈ gT := gT_3 (List.mem_of_getElem? (i := 111) rfl) rfl
theorem t_592 : (Cond.code ({ cls := "DotSheet$Paper", name := "allOfColumn", desc := "(I)J" } : MethodName) prog_4_method_19_code (5 : Nat) (Option.some FieldType.long)) ∈ gT := gT_3 (List.mem_of_getElem? (i := 112) rfl) rfl
theorem t_593 : (Cond.methodLink "DotSheet$Paper" (72 : Nat) ({ cls := "java/lang/Long", name := "numberOfLeadingZeros", desc := "(J)I" } : MethodName)) ∈ gT := gT_3 (List.mem_of_getElem? (i := 113) rfl) rfl
theorem t_594 : (Cond.static ({ cls := "java/lang/Long", name := "numberOfLeadingZeros", desc := "(J)I" } : MethodName)) ∈ gT := gT_3 (List.mem_of_getElem? (i := 114) rfl) rfl
theorem t_595 : (Cond.code ({ cls := "java/lang/Long", name := "numberOfLeadingZeros", desc := "(J)I" } : MethodName) prog_15_method_48_code (3 : Nat) (Option.some FieldType.int)) ∈ gT := gT_3 (List.mem_of_getElem? (i := 115) rfl) rfl
theorem t_596 : (Cond.methodLink "java/lang/Long" (308 : Nat) ({ cls := "java/lang/Integer", name := "numberOfLeadingZeros", desc := "(I)I" } : MethodName)) ∈ gT := gT_3 (List.mem_of_getElem? (i := 116) rfl) rfl
theorem t_597 : (Cond.static ({ cls := "java/lang/Integer", name := "numberOfLeadingZeros", desc := "(I)I" } : MethodName)) ∈ gT := gT_3 (List.mem_of_getElem? (i := 117) rfl) rfl
theorem t_598 : (Cond.code ({ cls := "java/lang/Integer", name := "numberOfLeadingZeros", desc := "(I)I" } : MethodName) prog_14_method_47_code (2 : Nat) (Option.some FieldType.int)) ∈ gT := gT_3 (List.mem_of_getElem? (i := 118) rfl) rfl
theorem t_599 : (Cond.constant "java/lang/Integer" (264 : Nat) (65536 : Int32)) ∈ gT := gT_3 (List.mem_of_getElem? (i := 119) rfl) rfl
theorem t_600 : (Cond.methodLink "DotSheet" (185 : Nat) ({ cls := "DotSheet$Paper", name := "leastY", desc := "()I" } : MethodName)) ∈ gT := gT_3 (List.mem_of_getElem? (i := 120) rfl) rfl
theorem t_601 : (Cond.instanceMethod ({ cls := "DotSheet$Paper", name := "leastY", desc := "()I" } : MethodName)) ∈ gT := gT_3 (List.mem_of_getElem? (i := 121) rfl) rfl
theorem t_602 : (Cond.selects "DotSheet$Paper" ({ cls := "DotSheet$Paper", name := "leastY", desc := "()I" } : MethodName) ({ cls := "DotSheet$Paper", name := "leastY", desc := "()I" } : MethodName)) ∈ gT := gT_3 (List.mem_of_getElem? (i := 122) rfl) rfl
theorem t_603 : (Cond.code ({ cls := "DotSheet$Paper", name := "leastY", desc := "()I" } : MethodName) prog_4_method_11_code (2 : Nat) (Option.some FieldType.int)) ∈ gT := gT_3 (List.mem_of_getElem? (i := 123) rfl) rfl
theorem t_604 : (Cond.methodLink "DotSheet$Paper" (78 : Nat) ({ cls := "DotSheet$Paper", name := "hasDarkInRow", desc := "(I)Z" } : MethodName)) ∈ gT := gT_3 (List.mem_of_getElem? (i := 124) rfl) rfl
theorem b_605 : (Cond.privateMethod ({ cls := "DotSheet$Paper", name := "hasDarkInRow", desc := "(I)Z" } : MethodName)) ∈ lw_tbl := List.mem_append_right _ (List.mem_append_right _ (List.mem_append_right _ (List.mem_append_left _ (List.mem_of_getElem? (i := 125) rfl))))
theorem t_606 : (Cond.instanceMethod ({ cls := "DotSheet$Paper", name := "hasDarkInRow", desc := "(I)Z" } : MethodName)) ∈ gT := gT_3 (List.mem_of_getElem? (i := 126) rfl) rfl
theorem t_607 : (Cond.code ({ cls := "DotSheet$Paper", name := "hasDarkInRow", desc := "(I)Z" } : MethodName) prog_4_method_20_code (3 : Nat) (Option.some FieldType.boolean)) ∈ gT := gT_3 (List.mem_of_getElem? (i := 127) rfl) rfl
theorem t_608 : (Cond.methodLink "DotSheet" (188 : Nat) ({ cls := "DotSheet$Paper", name := "greatestX", desc := "()I" } : MethodName)) ∈ gT := gT_3 (List.mem_of_getElem? (i := 128) rfl) rfl
theorem t_609 : (Cond.instanceMethod ({ cls := "DotSheet$Paper", name := "greatestX", desc := "()I" } : MethodName)) ∈ gT := gT_3 (List.mem_of_getElem? (i := 129) rfl) rfl
theorem t_610 : (Cond.selects "DotSheet$Paper" ({ cls := "DotSheet$Paper", name := "greatestX", desc := "()I" } : MethodName) ({ cls := "DotSheet$Paper", name := "greatestX", desc := "()I" } : MethodName)) ∈ gT := gT_3 (List.mem_of_getElem? (i := 130) rfl) rfl
theorem t_611 : (Cond.code ({ cls := "DotSheet$Paper", name := "greatestX", desc := "()I" } : MethodName) prog_4_method_10_code (4 : Nat) (Option.some FieldType.int)) ∈ gT := gT_3 (List.mem_of_getElem? (i := 131) rfl) rfl
theorem t_612 : (Cond.methodLink "DotSheet$Paper" (75 : Nat) ({ cls := "java/lang/Long", name := "numberOfTrailingZeros", desc := "(J)I" } : MethodName)) ∈ gT := gT_3 (List.mem_of_getElem? (i := 132) rfl) rfl
theorem t_613 : (Cond.static ({ cls := "java/lang/Long", name := "numberOfTrailingZeros", desc := "(J)I" } : MethodName)) ∈ gT := gT_3 (List.mem_of_getElem? (i := 133) rfl) rfl
theorem t_614 : (Cond.code ({ cls := "java/lang/Long", name := "numberOfTrailingZeros", desc := "(J)I" } : MethodName) prog_15_method_49_code (3 : Nat) (Option.some FieldType.int)) ∈ gT := gT_3 (List.mem_of_getElem? (i := 134) rfl) rfl
theorem t_615 : (Cond.methodLink "java/lang/Long" (311 : Nat) ({ cls := "java/lang/Integer", name := "numberOfTrailingZeros", desc := "(I)I" } : MethodName)) ∈ gT := gT_3 (List.mem_of_getElem? (i := 135) rfl) rfl
theorem t_616 : (Cond.static ({ cls := "java/lang/Integer", name := "numberOfTrailingZeros", desc := "(I)I" } : MethodName)) ∈ gT := gT_3 (List.mem_of_getElem? (i := 136) rfl) rfl
theorem t_617 : (Cond.code ({ cls := "java/lang/Integer", name := "numberOfTrailingZeros", desc := "(I)I" } : MethodName) prog_14_method_48_code (2 : Nat) (Option.some FieldType.int)) ∈ gT := gT_3 (List.mem_of_getElem? (i := 137) rfl) rfl
theorem t_618 : (Cond.methodLink "DotSheet" (191 : Nat) ({ cls := "DotSheet$Paper", name := "greatestY", desc := "()I" } : MethodName)) ∈ gT := gT_3 (List.mem_of_getElem? (i := 138) rfl) rfl
theorem t_619 : (Cond.instanceMethod ({ cls := "DotSheet$Paper", name := "greatestY", desc := "()I" } : MethodName)) ∈ gT := gT_3 (List.mem_of_getElem? (i := 139) rfl) rfl
theorem t_620 : (Cond.selects "DotSheet$Paper" ({ cls := "DotSheet$Paper", name := "greatestY", desc := "()I" } : MethodName) ({ cls := "DotSheet$Paper", name := "greatestY", desc := "()I" } : MethodName)) ∈ gT := gT_3 (List.mem_of_getElem? (i := 140) rfl) rfl
theorem t_621 : (Cond.code ({ cls := "DotSheet$Paper", name := "greatestY", desc := "()I" } : MethodName) prog_4_method_12_code (2 : Nat) (Option.some FieldType.int)) ∈ gT := gT_3 (List.mem_of_getElem? (i := 141) rfl) rfl
theorem t_622 : (Cond.methodLink "DotSheet" (194 : Nat) ({ cls := "DotSheet$Paper", name := "darkIn", desc := "(IIII)I" } : MethodName)) ∈ gT := gT_3 (List.mem_of_getElem? (i := 142) rfl) rfl
theorem t_623 : (Cond.instanceMethod ({ cls := "DotSheet$Paper", name := "darkIn", desc := "(IIII)I" } : MethodName)) ∈ gT := gT_3 (List.mem_of_getElem? (i := 143) rfl) rfl
theorem t_624 : (Cond.selects "DotSheet$Paper" ({ cls := "DotSheet$Paper", name := "darkIn", desc := "(IIII)I" } : MethodName) ({ cls := "DotSheet$Paper", name := "darkIn", desc := "(IIII)I" } : MethodName)) ∈ gT := gT_3 (List.mem_of_getElem? (i := 144) rfl) rfl
theorem t_625 : (Cond.code ({ cls := "DotSheet$Paper", name := "darkIn", desc := "(IIII)I" } : MethodName) prog_4_method_8_code (14 : Nat) (Option.some FieldType.int)) ∈ gT := gT_3 (List.mem_of_getElem? (i := 145) rfl) rfl
theorem t_626 : (Cond.methodLink "DotSheet$Paper" (62 : Nat) ({ cls := "java/lang/Long", name := "bitCount", desc := "(J)I" } : MethodName)) ∈ gT := gT_3 (List.mem_of_getElem? (i := 146) rfl) rfl
theorem t_627 : (Cond.static ({ cls := "java/lang/Long", name := "bitCount", desc := "(J)I" } : MethodName)) ∈ gT := gT_3 (List.mem_of_getElem? (i := 147) rfl) rfl
theorem t_628 : (Cond.code ({ cls := "java/lang/Long", name := "bitCount", desc := "(J)I" } : MethodName) prog_15_method_50_code (2 : Nat) (Option.some FieldType.int)) ∈ gT := gT_3 (List.mem_of_getElem? (i := 148) rfl) rfl
theorem t_629 : (Cond.constantLong "java/lang/Long" (314 : Nat) (6148914691236517205 : Int64)) ∈ gT := gT_3 (List.mem_of_getElem? (i := 149) rfl) rfl
theorem t_630 : (Cond.constantLong "java/lang/Long" (316 : Nat) (3689348814741910323 : Int64)) ∈ gT := gT_3 (List.mem_of_getElem? (i := 150) rfl) rfl
theorem t_631 : (Cond.constantLong "java/lang/Long" (318 : Nat) (1085102592571150095 : Int64)) ∈ gT := gT_3 (List.mem_of_getElem? (i := 151) rfl) rfl
theorem b_632 : (Cond.stringRef "DotSheet" (199 : Nat) "nothing of this kind is told") ∈ lw_tbl := List.mem_append_right _ (List.mem_append_right _ (List.mem_append_right _ (List.mem_append_left _ (List.mem_of_getElem? (i := 152) rfl))))
theorem t_633 : (Cond.methodLink "DotSheetLaw" (141 : Nat) ({ cls := "DotSheetLaw", name := "count", desc := "(LDotSheet;IIII[J)I" } : MethodName)) ∈ gT := gT_3 (List.mem_of_getElem? (i := 153) rfl) rfl
theorem t_634 : (Cond.static ({ cls := "DotSheetLaw", name := "count", desc := "(LDotSheet;IIII[J)I" } : MethodName)) ∈ gT := gT_3 (List.mem_of_getElem? (i := 154) rfl) rfl
theorem t_635 : (Cond.codeWith ({ cls := "DotSheetLaw", name := "count", desc := "(LDotSheet;IIII[J)I" } : MethodName) method_17_code (7 : Nat) (Option.some FieldType.int) [((0 : Nat), (14 : Nat), (17 : Nat), (13 : Nat))]) ∈ gT := gT_3 (List.mem_of_getElem? (i := 155) rfl) rfl
theorem t_636 : (Cond.methodLink "DotSheetLaw" (64 : Nat) ({ cls := "DotSheet", name := "count", desc := "(IIII)I" } : MethodName)) ∈ gT := gT_3 (List.mem_of_getElem? (i := 156) rfl) rfl
theorem t_637 : (Cond.instanceMethod ({ cls := "DotSheet", name := "count", desc := "(IIII)I" } : MethodName)) ∈ gT := gT_3 (List.mem_of_getElem? (i := 157) rfl) rfl
theorem t_638 : (Cond.selects "DotSheet" ({ cls := "DotSheet", name := "count", desc := "(IIII)I" } : MethodName) ({ cls := "DotSheet", name := "count", desc := "(IIII)I" } : MethodName)) ∈ gT := gT_3 (List.mem_of_getElem? (i := 158) rfl) rfl
theorem t_639 : (Cond.code ({ cls := "DotSheet", name := "count", desc := "(IIII)I" } : MethodName) prog_1_method_17_code (5 : Nat) (Option.some FieldType.int)) ∈ gT := gT_3 (List.mem_of_getElem? (i := 159) rfl) rfl
theorem t_640 : (Cond.methodLink "DotSheetLaw" (145 : Nat) ({ cls := "DotSheetLaw", name := "dots", desc := "(LDotSheet;III[J)I" } : MethodName)) ∈ gT := gT_3 (List.mem_of_getElem? (i := 160) rfl) rfl
theorem t_641 : (Cond.static ({ cls := "DotSheetLaw", name := "dots", desc := "(LDotSheet;III[J)I" } : MethodName)) ∈ gT := gT_3 (List.mem_of_getElem? (i := 161) rfl) rfl
theorem t_642 : (Cond.codeWith ({ cls := "DotSheetLaw", name := "dots", desc := "(LDotSheet;III[J)I" } : MethodName) method_18_code (6 : Nat) (Option.some FieldType.int) [((0 : Nat), (11 : Nat), (14 : Nat), (13 : Nat))]) ∈ gT := gT_3 (List.mem_of_getElem? (i := 162) rfl) rfl
theorem t_643 : (Cond.methodLink "DotSheetLaw" (68 : Nat) ({ cls := "DotSheet", name := "dots", desc := "(III)J" } : MethodName)) ∈ gT := gT_3 (List.mem_of_getElem? (i := 163) rfl) rfl
theorem t_644 : (Cond.instanceMethod ({ cls := "DotSheet", name := "dots", desc := "(III)J" } : MethodName)) ∈ gT := gT_3 (List.mem_of_getElem? (i := 164) rfl) rfl
theorem t_645 : (Cond.selects "DotSheet" ({ cls := "DotSheet", name := "dots", desc := "(III)J" } : MethodName) ({ cls := "DotSheet", name := "dots", desc := "(III)J" } : MethodName)) ∈ gT := gT_3 (List.mem_of_getElem? (i := 165) rfl) rfl
theorem t_646 : (Cond.code ({ cls := "DotSheet", name := "dots", desc := "(III)J" } : MethodName) prog_1_method_18_code (7 : Nat) (Option.some FieldType.long)) ∈ gT := gT_3 (List.mem_of_getElem? (i := 166) rfl) rfl
theorem t_647 : (Cond.methodLink "DotSheet" (202 : Nat) ({ cls := "DotSheet$Paper", name := "isDark", desc := "(II)Z" } : MethodName)) ∈ gT := gT_3 (List.mem_of_getElem? (i := 167) rfl) rfl
theorem t_648 : (Cond.instanceMethod ({ cls := "DotSheet$Paper", name := "isDark", desc := "(II)Z" } : MethodName)) ∈ gT := gT_3 (List.mem_of_getElem? (i := 168) rfl) rfl
theorem t_649 : (Cond.selects "DotSheet$Paper" ({ cls := "DotSheet$Paper", name := "isDark", desc := "(II)Z" } : MethodName) ({ cls := "DotSheet$Paper", name := "isDark", desc := "(II)Z" } : MethodName)) ∈ gT := gT_3 (List.mem_of_getElem? (i := 169) rfl) rfl
theorem t_650 : (Cond.code ({ cls := "DotSheet$Paper", name := "isDark", desc := "(II)Z" } : MethodName) prog_4_method_4_code (3 : Nat) (Option.some FieldType.boolean)) ∈ gT := gT_3 (List.mem_of_getElem? (i := 170) rfl) rfl
theorem t_651 : (Cond.methodLink "DotSheet$Paper" (37 : Nat) ({ cls := "DotSheet$Paper", name := "has", desc := "(II)Z" } : MethodName)) ∈ gT := gT_3 (List.mem_of_getElem? (i := 171) rfl) rfl
theorem t_652 : (Cond.instanceMethod ({ cls := "DotSheet$Paper", name := "has", desc := "(II)Z" } : MethodName)) ∈ gT := gT_3 (List.mem_of_getElem? (i := 172) rfl) rfl
theorem t_653 : (Cond.selects "DotSheet$Paper" ({ cls := "DotSheet$Paper", name := "has", desc := "(II)Z" } : MethodName) ({ cls := "DotSheet$Paper", name := "has", desc := "(II)Z" } : MethodName)) ∈ gT := gT_3 (List.mem_of_getElem? (i := 173) rfl) rfl
theorem t_654 : (Cond.code ({ cls := "DotSheet$Paper", name := "has", desc := "(II)Z" } : MethodName) prog_4_method_3_code (3 : Nat) (Option.some FieldType.boolean)) ∈ gT := gT_3 (List.mem_of_getElem? (i := 174) rfl) rfl
theorem t_655 : (Cond.methodLink "DotSheetLaw" (148 : Nat) ({ cls := "DotSheetLaw", name := "run", desc := "(LDotSheet;IIIZ[J)I" } : MethodName)) ∈ gT := gT_3 (List.mem_of_getElem? (i := 175) rfl) rfl
theorem t_656 : (Cond.static ({ cls := "DotSheetLaw", name := "run", desc := "(LDotSheet;IIIZ[J)I" } : MethodName)) ∈ gT := gT_3 (List.mem_of_getElem? (i := 176) rfl) rfl
theorem t_657 : (Cond.codeWith ({ cls := "DotSheetLaw", name := "run", desc := "(LDotSheet;IIIZ[J)I" } : MethodName) method_19_code (7 : Nat) (Option.some FieldType.int) [((0 : Nat), (14 : Nat), (17 : Nat), (13 : Nat)), ((0 : Nat), (14 : Nat), (21 : Nat), (40 : Nat))]) ∈ gT := gT_3 (List.mem_of_getElem? (i := 177) rfl) rfl
theorem t_658 : (Cond.methodLink "DotSheetLaw" (72 : Nat) ({ cls := "DotSheet", name := "run", desc := "(IIIZ)I" } : MethodName)) ∈ gT := gT_3 (List.mem_of_getElem? (i := 178) rfl) rfl
theorem t_659 : (Cond.instanceMethod ({ cls := "DotSheet", name := "run", desc := "(IIIZ)I" } : MethodName)) ∈ gT := gT_3 (List.mem_of_getElem? (i := 179) rfl) rfl
theorem t_660 : (Cond.selects "DotSheet" ({ cls := "DotSheet", name := "run", desc := "(IIIZ)I" } : MethodName) ({ cls := "DotSheet", name := "run", desc := "(IIIZ)I" } : MethodName)) ∈ gT := gT_3 (List.mem_of_getElem? (i := 180) rfl) rfl
theorem t_661 : (Cond.code ({ cls := "DotSheet", name := "run", desc := "(IIIZ)I" } : MethodName) prog_1_method_19_code (5 : Nat) (Option.some FieldType.int)) ∈ gT := gT_3 (List.mem_of_getElem? (i := 181) rfl) rfl
theorem t_662 : (Cond.methodLink "DotSheet" (206 : Nat) ({ cls := "DotSheet$Paper", name := "has", desc := "(II)Z" } : MethodName)) ∈ gT := gT_3 (List.mem_of_getElem? (i := 182) rfl) rfl
theorem b_663 : (Cond.stringRef "DotSheet" (209 : Nat) "the dot lies not on the sheet") ∈ lw_tbl := List.mem_append_right _ (List.mem_append_right _ (List.mem_append_right _ (List.mem_append_left _ (List.mem_of_getElem? (i := 183) rfl))))
theorem t_664 : (Cond.methodLink "DotSheet" (211 : Nat) ({ cls := "DotSheet$Paper", name := "runDown", desc := "(III)I" } : MethodName)) ∈ gT := gT_3 (List.mem_of_getElem? (i := 184) rfl) rfl
theorem t_665 : (Cond.instanceMethod ({ cls := "DotSheet$Paper", name := "runDown", desc := "(III)I" } : MethodName)) ∈ gT := gT_3 (List.mem_of_getElem? (i := 185) rfl) rfl
theorem t_666 : (Cond.selects "DotSheet$Paper" ({ cls := "DotSheet$Paper", name := "runDown", desc := "(III)I" } : MethodName) ({ cls := "DotSheet$Paper", name := "runDown", desc := "(III)I" } : MethodName)) ∈ gT := gT_3 (List.mem_of_getElem? (i := 186) rfl) rfl
theorem t_667 : (Cond.code ({ cls := "DotSheet$Paper", name := "runDown", desc := "(III)I" } : MethodName) prog_4_method_14_code (4 : Nat) (Option.some FieldType.int)) ∈ gT := gT_3 (List.mem_of_getElem? (i := 187) rfl) rfl
theorem t_668 : (Cond.methodLink "DotSheet$Paper" (82 : Nat) ({ cls := "DotSheet$Paper", name := "runLength", desc := "(IIIIII)I" } : MethodName)) ∈ gT := gT_3 (List.mem_of_getElem? (i := 188) rfl) rfl
theorem b_669 : (Cond.privateMethod ({ cls := "DotSheet$Paper", name := "runLength", desc := "(IIIIII)I" } : MethodName)) ∈ lw_tbl := List.mem_append_right _ (List.mem_append_right _ (List.mem_append_right _ (List.mem_append_left _ (List.mem_of_getElem? (i := 189) rfl))))
theorem t_670 : (Cond.instanceMethod ({ cls := "DotSheet$Paper", name := "runLength", desc := "(IIIIII)I" } : MethodName)) ∈ gT := gT_3 (List.mem_of_getElem? (i := 190) rfl) rfl
theorem t_671 : (Cond.code ({ cls := "DotSheet$Paper", name := "runLength", desc := "(IIIIII)I" } : MethodName) prog_4_method_16_code (11 : Nat) (Option.some FieldType.int)) ∈ gT := gT_3 (List.mem_of_getElem? (i := 191) rfl) rfl
theorem t_672 : (Cond.methodLink "DotSheet$Paper" (96 : Nat) ({ cls := "DotSheet$Paper", name := "isDark", desc := "(II)Z" } : MethodName)) ∈ gT := gT_3 (List.mem_of_getElem? (i := 192) rfl) rfl
theorem t_673 : (Cond.methodLink "DotSheet" (214 : Nat) ({ cls := "DotSheet$Paper", name := "runRight", desc := "(III)I" } : MethodName)) ∈ gT := gT_3 (List.mem_of_getElem? (i := 193) rfl) rfl
theorem t_674 : (Cond.instanceMethod ({ cls := "DotSheet$Paper", name := "runRight", desc := "(III)I" } : MethodName)) ∈ gT := gT_3 (List.mem_of_getElem? (i := 194) rfl) rfl
theorem t_675 : (Cond.selects "DotSheet$Paper" ({ cls := "DotSheet$Paper", name := "runRight", desc := "(III)I" } : MethodName) ({ cls := "DotSheet$Paper", name := "runRight", desc := "(III)I" } : MethodName)) ∈ gT := gT_3 (List.mem_of_getElem? (i := 195) rfl) rfl
theorem t_676 : (Cond.code ({ cls := "DotSheet$Paper", name := "runRight", desc := "(III)I" } : MethodName) prog_4_method_13_code (4 : Nat) (Option.some FieldType.int)) ∈ gT := gT_3 (List.mem_of_getElem? (i := 196) rfl) rfl
theorem t_677 : (Cond.classLink "DotSheetLaw" (77 : Nat) "DotSheetModel") ∈ gT := gT_3 (List.mem_of_getElem? (i := 197) rfl) rfl
theorem t_678 : (Cond.instantiable "DotSheetModel" (18 : Nat)) ∈ gT := gT_3 (List.mem_of_getElem? (i := 198) rfl) rfl
theorem t_679 : (Cond.methodLink "DotSheetLaw" (79 : Nat) ({ cls := "DotSheetModel", name := "<init>", desc := "()V" } : MethodName)) ∈ gT := gT_3 (List.mem_of_getElem? (i := 199) rfl) rfl
theorem t_680 : (Cond.instanceMethod ({ cls := "DotSheetModel", name := "<init>", desc := "()V" } : MethodName)) ∈ gT := gT_3 (List.mem_of_getElem? (i := 200) rfl) rfl
theorem t_681 : (Cond.code ({ cls := "DotSheetModel", name := "<init>", desc := "()V" } : MethodName) prog_9_method_1_code (1 : Nat) (Option.none : Option FieldType)) ∈ gT := gT_3 (List.mem_of_getElem? (i := 201) rfl) rfl
theorem t_682 : (Cond.methodLink "DotSheetModel" (1 : Nat) ({ cls := "java/lang/Object", name := "<init>", desc := "()V" } : MethodName)) ∈ gT := gT_3 (List.mem_of_getElem? (i := 202) rfl) rfl
theorem t_683 : (Cond.constant "DotSheetModel" (16 : Nat) (32768 : Int32)) ∈ gT := gT_3 (List.mem_of_getElem? (i := 203) rfl) rfl
theorem t_684 : (Cond.fieldLink "DotSheetModel" (37 : Nat) "DotSheetModel" "thrown" "I") ∈ gT := gT_3 (List.mem_of_getElem? (i := 204) rfl) rfl
theorem t_685 : (Cond.fieldLink "DotSheetModel" (7 : Nat) "DotSheetModel" "width" "I") ∈ gT := gT_3 (List.mem_of_getElem? (i := 205) rfl) rfl
theorem t_686 : (Cond.fieldLink "DotSheetModel" (13 : Nat) "DotSheetModel" "height" "I") ∈ gT := gT_3 (List.mem_of_getElem? (i := 206) rfl) rfl
theorem t_687 : (Cond.fieldLink "DotSheetModel" (44 : Nat) "DotSheetModel" "way" "I") ∈ gT := gT_3 (List.mem_of_getElem? (i := 207) rfl) rfl
theorem t_688 : (Cond.fieldLink "DotSheetModel" (17 : Nat) "DotSheetModel" "dark" "[I") ∈ gT := gT_3 (List.mem_of_getElem? (i := 208) rfl) rfl
theorem t_689 : (Cond.fieldLink "DotSheetModel" (21 : Nat) "DotSheetModel" "before" "[I") ∈ gT := gT_3 (List.mem_of_getElem? (i := 209) rfl) rfl
theorem t_690 : (Cond.fieldLink "DotSheetModel" (24 : Nat) "DotSheetModel" "draft" "[I") ∈ gT := gT_3 (List.mem_of_getElem? (i := 210) rfl) rfl
theorem t_691 : (Cond.fieldLink "DotSheetModel" (47 : Nat) "DotSheetModel" "drafted" "I") ∈ gT := gT_3 (List.mem_of_getElem? (i := 211) rfl) rfl
theorem t_692 : (Cond.fieldLink "DotSheetModel" (27 : Nat) "DotSheetModel" "sizes" "[I") ∈ gT := gT_3 (List.mem_of_getElem? (i := 212) rfl) rfl
theorem t_693 : (Cond.fieldLink "DotSheetModel" (30 : Nat) "DotSheetModel" "cells" "[I") ∈ gT := gT_3 (List.mem_of_getElem? (i := 213) rfl) rfl
theorem t_694 : (Cond.fieldLink "DotSheetModel" (52 : Nat) "DotSheetModel" "fx" "I") ∈ gT := gT_3 (List.mem_of_getElem? (i := 214) rfl) rfl
theorem t_695 : (Cond.fieldLink "DotSheetModel" (58 : Nat) "DotSheetModel" "fy" "I") ∈ gT := gT_3 (List.mem_of_getElem? (i := 215) rfl) rfl
theorem t_696 : (Cond.fieldLink "DotSheetModel" (55 : Nat) "DotSheetModel" "fa" "I") ∈ gT := gT_3 (List.mem_of_getElem? (i := 216) rfl) rfl
theorem t_697 : (Cond.fieldLink "DotSheetModel" (61 : Nat) "DotSheetModel" "fb" "I") ∈ gT := gT_3 (List.mem_of_getElem? (i := 217) rfl) rfl
theorem t_698 : (Cond.fieldLink "DotSheetModel" (64 : Nat) "DotSheetModel" "fc" "I") ∈ gT := gT_3 (List.mem_of_getElem? (i := 218) rfl) rfl
theorem t_699 : (Cond.fieldLink "DotSheetModel" (75 : Nat) "DotSheetModel" "quarter" "I") ∈ gT := gT_3 (List.mem_of_getElem? (i := 219) rfl) rfl
theorem t_700 : (Cond.fieldLink "DotSheetModel" (78 : Nat) "DotSheetModel" "font" "I") ∈ gT := gT_3 (List.mem_of_getElem? (i := 220) rfl) rfl
theorem t_701 : (Cond.fieldLink "DotSheetModel" (33 : Nat) "DotSheetModel" "columns" "[Z") ∈ gT := gT_3 (List.mem_of_getElem? (i := 221) rfl) rfl
theorem t_702 : (Cond.lays "DotSheetModel" "DotSheetModel" "thrown" "I") ∈ gT := gT_3 (List.mem_of_getElem? (i := 222) rfl) rfl
theorem t_703 : (Cond.soleField "DotSheetModel" "thrown") ∈ gT := gT_3 (List.mem_of_getElem? (i := 223) rfl) rfl
theorem t_704 : (Cond.lays "DotSheetModel" "DotSheetModel" "width" "I") ∈ gT := gT_3 (List.mem_of_getElem? (i := 224) rfl) rfl
theorem t_705 : (Cond.soleField "DotSheetModel" "width") ∈ gT := gT_3 (List.mem_of_getElem? (i := 225) rfl) rfl
theorem t_706 : (Cond.lays "DotSheetModel" "DotSheetModel" "height" "I") ∈ gT := gT_3 (List.mem_of_getElem? (i := 226) rfl) rfl
theorem t_707 : (Cond.soleField "DotSheetModel" "height") ∈ gT := gT_3 (List.mem_of_getElem? (i := 227) rfl) rfl
theorem t_708 : (Cond.lays "DotSheetModel" "DotSheetModel" "way" "I") ∈ gT := gT_3 (List.mem_of_getElem? (i := 228) rfl) rfl
theorem t_709 : (Cond.soleField "DotSheetModel" "way") ∈ gT := gT_3 (List.mem_of_getElem? (i := 229) rfl) rfl
theorem t_710 : (Cond.laysFinal "DotSheetModel" "DotSheetModel" "dark" "[I") ∈ gT := gT_3 (List.mem_of_getElem? (i := 230) rfl) rfl
theorem t_711 : (Cond.soleField "DotSheetModel" "dark") ∈ gT := gT_3 (List.mem_of_getElem? (i := 231) rfl) rfl
theorem t_712 : (Cond.laysFinal "DotSheetModel" "DotSheetModel" "before" "[I") ∈ gT := gT_3 (List.mem_of_getElem? (i := 232) rfl) rfl
theorem t_713 : (Cond.soleField "DotSheetModel" "before") ∈ gT := gT_3 (List.mem_of_getElem? (i := 233) rfl) rfl
theorem t_714 : (Cond.laysFinal "DotSheetModel" "DotSheetModel" "draft" "[I") ∈ gT := gT_3 (List.mem_of_getElem? (i := 234) rfl) rfl
theorem t_715 : (Cond.soleField "DotSheetModel" "draft") ∈ gT := gT_3 (List.mem_of_getElem? (i := 235) rfl) rfl
theorem t_716 : (Cond.lays "DotSheetModel" "DotSheetModel" "drafted" "I") ∈ gT := gT_3 (List.mem_of_getElem? (i := 236) rfl) rfl
theorem t_717 : (Cond.soleField "DotSheetModel" "drafted") ∈ gT := gT_3 (List.mem_of_getElem? (i := 237) rfl) rfl
theorem t_718 : (Cond.laysFinal "DotSheetModel" "DotSheetModel" "sizes" "[I") ∈ gT := gT_3 (List.mem_of_getElem? (i := 238) rfl) rfl
theorem t_719 : (Cond.soleField "DotSheetModel" "sizes") ∈ gT := gT_3 (List.mem_of_getElem? (i := 239) rfl) rfl
theorem t_720 : (Cond.laysFinal "DotSheetModel" "DotSheetModel" "cells" "[I") ∈ gT := gT_4 (List.mem_of_getElem? (i := 0) rfl) rfl
theorem t_721 : (Cond.soleField "DotSheetModel" "cells") ∈ gT := gT_4 (List.mem_of_getElem? (i := 1) rfl) rfl
theorem t_722 : (Cond.lays "DotSheetModel" "DotSheetModel" "fx" "I") ∈ gT := gT_4 (List.mem_of_getElem? (i := 2) rfl) rfl
theorem t_723 : (Cond.soleField "DotSheetModel" "fx") ∈ gT := gT_4 (List.mem_of_getElem? (i := 3) rfl) rfl
theorem t_724 : (Cond.lays "DotSheetModel" "DotSheetModel" "fy" "I") ∈ gT := gT_4 (List.mem_of_getElem? (i := 4) rfl) rfl
theorem t_725 : (Cond.soleField "DotSheetModel" "fy") ∈ gT := gT_4 (List.mem_of_getElem? (i := 5) rfl) rfl
theorem t_726 : (Cond.lays "DotSheetModel" "DotSheetModel" "fa" "I") ∈ gT := gT_4 (List.mem_of_getElem? (i := 6) rfl) rfl
theorem t_727 : (Cond.soleField "DotSheetModel" "fa") ∈ gT := gT_4 (List.mem_of_getElem? (i := 7) rfl) rfl
theorem t_728 : (Cond.lays "DotSheetModel" "DotSheetModel" "fb" "I") ∈ gT := gT_4 (List.mem_of_getElem? (i := 8) rfl) rfl
theorem t_729 : (Cond.soleField "DotSheetModel" "fb") ∈ gT := gT_4 (List.mem_of_getElem? (i := 9) rfl) rfl
theorem t_730 : (Cond.lays "DotSheetModel" "DotSheetModel" "fc" "I") ∈ gT := gT_4 (List.mem_of_getElem? (i := 10) rfl) rfl
theorem t_731 : (Cond.soleField "DotSheetModel" "fc") ∈ gT := gT_4 (List.mem_of_getElem? (i := 11) rfl) rfl
theorem t_732 : (Cond.lays "DotSheetModel" "DotSheetModel" "quarter" "I") ∈ gT := gT_4 (List.mem_of_getElem? (i := 12) rfl) rfl
theorem t_733 : (Cond.soleField "DotSheetModel" "quarter") ∈ gT := gT_4 (List.mem_of_getElem? (i := 13) rfl) rfl
theorem t_734 : (Cond.lays "DotSheetModel" "DotSheetModel" "font" "I") ∈ gT := gT_4 (List.mem_of_getElem? (i := 14) rfl) rfl
theorem t_735 : (Cond.soleField "DotSheetModel" "font") ∈ gT := gT_4 (List.mem_of_getElem? (i := 15) rfl) rfl
theorem t_736 : (Cond.laysFinal "DotSheetModel" "DotSheetModel" "columns" "[Z") ∈ gT := gT_4 (List.mem_of_getElem? (i := 16) rfl) rfl
theorem t_737 : (Cond.soleField "DotSheetModel" "columns") ∈ gT := gT_4 (List.mem_of_getElem? (i := 17) rfl) rfl
theorem t_738 : (Cond.superclass "DotSheetModel" "java/lang/Object") ∈ gT := gT_4 (List.mem_of_getElem? (i := 18) rfl) rfl
theorem t_739 : (Cond.arrayClass FieldType.boolean) ∈ gT := gT_4 (List.mem_of_getElem? (i := 19) rfl) rfl
theorem t_740 : (Cond.methodLink "DotSheetLaw" (86 : Nat) ({ cls := "DotSheetModel", name := "thrown", desc := "()I" } : MethodName)) ∈ gT := gT_4 (List.mem_of_getElem? (i := 20) rfl) rfl
theorem t_741 : (Cond.instanceMethod ({ cls := "DotSheetModel", name := "thrown", desc := "()I" } : MethodName)) ∈ gT := gT_4 (List.mem_of_getElem? (i := 21) rfl) rfl
theorem t_742 : (Cond.selects "DotSheetModel" ({ cls := "DotSheetModel", name := "thrown", desc := "()I" } : MethodName) ({ cls := "DotSheetModel", name := "thrown", desc := "()I" } : MethodName)) ∈ gT := gT_4 (List.mem_of_getElem? (i := 22) rfl) rfl
theorem t_743 : (Cond.code ({ cls := "DotSheetModel", name := "thrown", desc := "()I" } : MethodName) prog_9_method_2_code (1 : Nat) (Option.some FieldType.int)) ∈ gT := gT_4 (List.mem_of_getElem? (i := 23) rfl) rfl
theorem t_744 : (Cond.methodLink "DotSheetLaw" (85 : Nat) ({ cls := "DotSheetModel", name := "sheet", desc := "(II)V" } : MethodName)) ∈ gT := gT_4 (List.mem_of_getElem? (i := 24) rfl) rfl
theorem t_745 : (Cond.instanceMethod ({ cls := "DotSheetModel", name := "sheet", desc := "(II)V" } : MethodName)) ∈ gT := gT_4 (List.mem_of_getElem? (i := 25) rfl) rfl
theorem t_746 : (Cond.selects "DotSheetModel" ({ cls := "DotSheetModel", name := "sheet", desc := "(II)V" } : MethodName) ({ cls := "DotSheetModel", name := "sheet", desc := "(II)V" } : MethodName)) ∈ gT := gT_4 (List.mem_of_getElem? (i := 26) rfl) rfl
theorem t_747 : (Cond.code ({ cls := "DotSheetModel", name := "sheet", desc := "(II)V" } : MethodName) prog_9_method_6_code (4 : Nat) (Option.none : Option FieldType)) ∈ gT := gT_4 (List.mem_of_getElem? (i := 27) rfl) rfl
theorem t_748 : (Cond.methodLink "DotSheetLaw" (93 : Nat) ({ cls := "DotSheetModel", name := "way", desc := "(I)I" } : MethodName)) ∈ gT := gT_4 (List.mem_of_getElem? (i := 28) rfl) rfl
theorem t_749 : (Cond.instanceMethod ({ cls := "DotSheetModel", name := "way", desc := "(I)I" } : MethodName)) ∈ gT := gT_4 (List.mem_of_getElem? (i := 29) rfl) rfl
theorem t_750 : (Cond.selects "DotSheetModel" ({ cls := "DotSheetModel", name := "way", desc := "(I)I" } : MethodName) ({ cls := "DotSheetModel", name := "way", desc := "(I)I" } : MethodName)) ∈ gT := gT_4 (List.mem_of_getElem? (i := 30) rfl) rfl
theorem t_751 : (Cond.code ({ cls := "DotSheetModel", name := "way", desc := "(I)I" } : MethodName) prog_9_method_7_code (3 : Nat) (Option.some FieldType.int)) ∈ gT := gT_4 (List.mem_of_getElem? (i := 31) rfl) rfl
theorem t_752 : (Cond.methodLink "DotSheetLaw" (99 : Nat) ({ cls := "DotSheetModel", name := "write", desc := "(IJ)I" } : MethodName)) ∈ gT := gT_4 (List.mem_of_getElem? (i := 32) rfl) rfl
theorem t_753 : (Cond.instanceMethod ({ cls := "DotSheetModel", name := "write", desc := "(IJ)I" } : MethodName)) ∈ gT := gT_4 (List.mem_of_getElem? (i := 33) rfl) rfl
theorem t_754 : (Cond.selects "DotSheetModel" ({ cls := "DotSheetModel", name := "write", desc := "(IJ)I" } : MethodName) ({ cls := "DotSheetModel", name := "write", desc := "(IJ)I" } : MethodName)) ∈ gT := gT_4 (List.mem_of_getElem? (i := 34) rfl) rfl
theorem t_755 : (Cond.code ({ cls := "DotSheetModel", name := "write", desc := "(IJ)I" } : MethodName) prog_9_method_8_code (5 : Nat) (Option.some FieldType.int)) ∈ gT := gT_4 (List.mem_of_getElem? (i := 35) rfl) rfl
theorem t_756 : (Cond.constantLong "DotSheetModel" (50 : Nat) (255 : Int64)) ∈ gT := gT_4 (List.mem_of_getElem? (i := 36) rfl) rfl
theorem t_757 : (Cond.methodLink "DotSheetLaw" (103 : Nat) ({ cls := "DotSheetModel", name := "wipe", desc := "()I" } : MethodName)) ∈ gT := gT_4 (List.mem_of_getElem? (i := 37) rfl) rfl
theorem t_758 : (Cond.instanceMethod ({ cls := "DotSheetModel", name := "wipe", desc := "()I" } : MethodName)) ∈ gT := gT_4 (List.mem_of_getElem? (i := 38) rfl) rfl
theorem t_759 : (Cond.selects "DotSheetModel" ({ cls := "DotSheetModel", name := "wipe", desc := "()I" } : MethodName) ({ cls := "DotSheetModel", name := "wipe", desc := "()I" } : MethodName)) ∈ gT := gT_4 (List.mem_of_getElem? (i := 39) rfl) rfl
theorem t_760 : (Cond.code ({ cls := "DotSheetModel", name := "wipe", desc := "()I" } : MethodName) prog_9_method_9_code (2 : Nat) (Option.some FieldType.int)) ∈ gT := gT_4 (List.mem_of_getElem? (i := 40) rfl) rfl
theorem t_761 : (Cond.methodLink "DotSheetLaw" (107 : Nat) ({ cls := "DotSheetModel", name := "frame", desc := "(IIIII)I" } : MethodName)) ∈ gT := gT_4 (List.mem_of_getElem? (i := 41) rfl) rfl
theorem t_762 : (Cond.instanceMethod ({ cls := "DotSheetModel", name := "frame", desc := "(IIIII)I" } : MethodName)) ∈ gT := gT_4 (List.mem_of_getElem? (i := 42) rfl) rfl
theorem t_763 : (Cond.selects "DotSheetModel" ({ cls := "DotSheetModel", name := "frame", desc := "(IIIII)I" } : MethodName) ({ cls := "DotSheetModel", name := "frame", desc := "(IIIII)I" } : MethodName)) ∈ gT := gT_4 (List.mem_of_getElem? (i := 43) rfl) rfl
theorem t_764 : (Cond.code ({ cls := "DotSheetModel", name := "frame", desc := "(IIIII)I" } : MethodName) prog_9_method_26_code (6 : Nat) (Option.some FieldType.int)) ∈ gT := gT_4 (List.mem_of_getElem? (i := 44) rfl) rfl
theorem t_765 : (Cond.methodLink "DotSheetModel" (124 : Nat) ({ cls := "DotSheetModel", name := "noPlace", desc := "(II)Z" } : MethodName)) ∈ gT := gT_4 (List.mem_of_getElem? (i := 45) rfl) rfl
theorem t_766 : (Cond.static ({ cls := "DotSheetModel", name := "noPlace", desc := "(II)Z" } : MethodName)) ∈ gT := gT_4 (List.mem_of_getElem? (i := 46) rfl) rfl
theorem t_767 : (Cond.code ({ cls := "DotSheetModel", name := "noPlace", desc := "(II)Z" } : MethodName) prog_9_method_23_code (2 : Nat) (Option.some FieldType.boolean)) ∈ gT := gT_4 (List.mem_of_getElem? (i := 47) rfl) rfl
theorem t_768 : (Cond.methodLink "DotSheetModel" (127 : Nat) ({ cls := "DotSheetModel", name := "noRing", desc := "(III)Z" } : MethodName)) ∈ gT := gT_4 (List.mem_of_getElem? (i := 48) rfl) rfl
theorem t_769 : (Cond.static ({ cls := "DotSheetModel", name := "noRing", desc := "(III)Z" } : MethodName)) ∈ gT := gT_4 (List.mem_of_getElem? (i := 49) rfl) rfl
theorem t_770 : (Cond.code ({ cls := "DotSheetModel", name := "noRing", desc := "(III)Z" } : MethodName) prog_9_method_25_code (3 : Nat) (Option.some FieldType.boolean)) ∈ gT := gT_4 (List.mem_of_getElem? (i := 50) rfl) rfl
theorem t_771 : (Cond.methodLink "DotSheetModel" (121 : Nat) ({ cls := "DotSheetModel", name := "isNot", desc := "(III)Z" } : MethodName)) ∈ gT := gT_4 (List.mem_of_getElem? (i := 51) rfl) rfl
theorem t_772 : (Cond.static ({ cls := "DotSheetModel", name := "isNot", desc := "(III)Z" } : MethodName)) ∈ gT := gT_4 (List.mem_of_getElem? (i := 52) rfl) rfl
theorem t_773 : (Cond.code ({ cls := "DotSheetModel", name := "isNot", desc := "(III)Z" } : MethodName) prog_9_method_24_code (3 : Nat) (Option.some FieldType.boolean)) ∈ gT := gT_4 (List.mem_of_getElem? (i := 53) rfl) rfl
theorem t_774 : (Cond.methodLink "DotSheetModel" (130 : Nat) ({ cls := "DotSheetModel", name := "at", desc := "(IIIII)V" } : MethodName)) ∈ gT := gT_4 (List.mem_of_getElem? (i := 54) rfl) rfl
theorem b_775 : (Cond.privateMethod ({ cls := "DotSheetModel", name := "at", desc := "(IIIII)V" } : MethodName)) ∈ lw_tbl := List.mem_append_right _ (List.mem_append_right _ (List.mem_append_right _ (List.mem_append_right _ (List.mem_of_getElem? (i := 55) rfl))))
theorem t_776 : (Cond.instanceMethod ({ cls := "DotSheetModel", name := "at", desc := "(IIIII)V" } : MethodName)) ∈ gT := gT_4 (List.mem_of_getElem? (i := 56) rfl) rfl
theorem t_777 : (Cond.code ({ cls := "DotSheetModel", name := "at", desc := "(IIIII)V" } : MethodName) prog_9_method_22_code (6 : Nat) (Option.none : Option FieldType)) ∈ gT := gT_4 (List.mem_of_getElem? (i := 57) rfl) rfl
theorem t_778 : (Cond.methodLink "DotSheetModel" (134 : Nat) ({ cls := "DotSheetModel", name := "draw", desc := "(I)I" } : MethodName)) ∈ gT := gT_4 (List.mem_of_getElem? (i := 58) rfl) rfl
theorem b_779 : (Cond.privateMethod ({ cls := "DotSheetModel", name := "draw", desc := "(I)I" } : MethodName)) ∈ lw_tbl := List.mem_append_right _ (List.mem_append_right _ (List.mem_append_right _ (List.mem_append_right _ (List.mem_of_getElem? (i := 59) rfl))))
theorem t_780 : (Cond.instanceMethod ({ cls := "DotSheetModel", name := "draw", desc := "(I)I" } : MethodName)) ∈ gT := gT_4 (List.mem_of_getElem? (i := 60) rfl) rfl
theorem t_781 : (Cond.code ({ cls := "DotSheetModel", name := "draw", desc := "(I)I" } : MethodName) prog_9_method_21_code (5 : Nat) (Option.some FieldType.int)) ∈ gT := gT_4 (List.mem_of_getElem? (i := 61) rfl) rfl
theorem t_782 : (Cond.methodLink "DotSheetModel" (110 : Nat) ({ cls := "DotSheetModel", name := "belongs", desc := "(III)Z" } : MethodName)) ∈ gT := gT_4 (List.mem_of_getElem? (i := 62) rfl) rfl
theorem b_783 : (Cond.privateMethod ({ cls := "DotSheetModel", name := "belongs", desc := "(III)Z" } : MethodName)) ∈ lw_tbl := List.mem_append_right _ (List.mem_append_right _ (List.mem_append_right _ (List.mem_append_right _ (List.mem_of_getElem? (i := 63) rfl))))
theorem t_784 : (Cond.instanceMethod ({ cls := "DotSheetModel", name := "belongs", desc := "(III)Z" } : MethodName)) ∈ gT := gT_4 (List.mem_of_getElem? (i := 64) rfl) rfl
theorem t_785 : (Cond.code ({ cls := "DotSheetModel", name := "belongs", desc := "(III)Z" } : MethodName) prog_9_method_20_code (6 : Nat) (Option.some FieldType.boolean)) ∈ gT := gT_4 (List.mem_of_getElem? (i := 65) rfl) rfl
theorem t_786 : (Cond.methodLink "DotSheetModel" (85 : Nat) ({ cls := "DotSheetModel", name := "inFrame", desc := "(II)Z" } : MethodName)) ∈ gT := gT_4 (List.mem_of_getElem? (i := 66) rfl) rfl
theorem b_787 : (Cond.privateMethod ({ cls := "DotSheetModel", name := "inFrame", desc := "(II)Z" } : MethodName)) ∈ lw_tbl := List.mem_append_right _ (List.mem_append_right _ (List.mem_append_right _ (List.mem_append_right _ (List.mem_of_getElem? (i := 67) rfl))))
theorem t_788 : (Cond.instanceMethod ({ cls := "DotSheetModel", name := "inFrame", desc := "(II)Z" } : MethodName)) ∈ gT := gT_4 (List.mem_of_getElem? (i := 68) rfl) rfl
theorem t_789 : (Cond.code ({ cls := "DotSheetModel", name := "inFrame", desc := "(II)Z" } : MethodName) prog_9_method_11_code (6 : Nat) (Option.some FieldType.boolean)) ∈ gT := gT_4 (List.mem_of_getElem? (i := 69) rfl) rfl
theorem t_790 : (Cond.methodLink "DotSheetModel" (88 : Nat) ({ cls := "DotSheetModel", name := "inLine", desc := "(II)Z" } : MethodName)) ∈ gT := gT_4 (List.mem_of_getElem? (i := 70) rfl) rfl
theorem b_791 : (Cond.privateMethod ({ cls := "DotSheetModel", name := "inLine", desc := "(II)Z" } : MethodName)) ∈ lw_tbl := List.mem_append_right _ (List.mem_append_right _ (List.mem_append_right _ (List.mem_append_right _ (List.mem_of_getElem? (i := 71) rfl))))
theorem t_792 : (Cond.instanceMethod ({ cls := "DotSheetModel", name := "inLine", desc := "(II)Z" } : MethodName)) ∈ gT := gT_4 (List.mem_of_getElem? (i := 72) rfl) rfl
theorem t_793 : (Cond.code ({ cls := "DotSheetModel", name := "inLine", desc := "(II)Z" } : MethodName) prog_9_method_12_code (19 : Nat) (Option.some FieldType.boolean)) ∈ gT := gT_4 (List.mem_of_getElem? (i := 73) rfl) rfl
theorem t_794 : (Cond.constantLong "DotSheetModel" (67 : Nat) (4 : Int64)) ∈ gT := gT_4 (List.mem_of_getElem? (i := 74) rfl) rfl
theorem t_795 : (Cond.methodLink "DotSheetModel" (91 : Nat) ({ cls := "DotSheetModel", name := "inEllipse", desc := "(II)Z" } : MethodName)) ∈ gT := gT_4 (List.mem_of_getElem? (i := 75) rfl) rfl
theorem b_796 : (Cond.privateMethod ({ cls := "DotSheetModel", name := "inEllipse", desc := "(II)Z" } : MethodName)) ∈ lw_tbl := List.mem_append_right _ (List.mem_append_right _ (List.mem_append_right _ (List.mem_append_right _ (List.mem_of_getElem? (i := 76) rfl))))
theorem t_797 : (Cond.instanceMethod ({ cls := "DotSheetModel", name := "inEllipse", desc := "(II)Z" } : MethodName)) ∈ gT := gT_4 (List.mem_of_getElem? (i := 77) rfl) rfl
theorem t_798 : (Cond.code ({ cls := "DotSheetModel", name := "inEllipse", desc := "(II)Z" } : MethodName) prog_9_method_14_code (11 : Nat) (Option.some FieldType.boolean)) ∈ gT := gT_4 (List.mem_of_getElem? (i := 78) rfl) rfl
theorem t_799 : (Cond.constantLong "DotSheetModel" (69 : Nat) (2 : Int64)) ∈ gT := gT_4 (List.mem_of_getElem? (i := 79) rfl) rfl
theorem t_800 : (Cond.methodLink "DotSheetModel" (71 : Nat) ({ cls := "DotSheetModel", name := "inOval", desc := "(JJJJ)Z" } : MethodName)) ∈ gT := gT_4 (List.mem_of_getElem? (i := 80) rfl) rfl
theorem t_801 : (Cond.static ({ cls := "DotSheetModel", name := "inOval", desc := "(JJJJ)Z" } : MethodName)) ∈ gT := gT_4 (List.mem_of_getElem? (i := 81) rfl) rfl
theorem t_802 : (Cond.code ({ cls := "DotSheetModel", name := "inOval", desc := "(JJJJ)Z" } : MethodName) prog_9_method_13_code (8 : Nat) (Option.some FieldType.boolean)) ∈ gT := gT_4 (List.mem_of_getElem? (i := 82) rfl) rfl
theorem t_803 : (Cond.methodLink "DotSheetModel" (94 : Nat) ({ cls := "DotSheetModel", name := "inPicture", desc := "(II)Z" } : MethodName)) ∈ gT := gT_4 (List.mem_of_getElem? (i := 83) rfl) rfl
theorem b_804 : (Cond.privateMethod ({ cls := "DotSheetModel", name := "inPicture", desc := "(II)Z" } : MethodName)) ∈ lw_tbl := List.mem_append_right _ (List.mem_append_right _ (List.mem_append_right _ (List.mem_append_right _ (List.mem_of_getElem? (i := 84) rfl))))
theorem t_805 : (Cond.instanceMethod ({ cls := "DotSheetModel", name := "inPicture", desc := "(II)Z" } : MethodName)) ∈ gT := gT_4 (List.mem_of_getElem? (i := 85) rfl) rfl
theorem t_806 : (Cond.code ({ cls := "DotSheetModel", name := "inPicture", desc := "(II)Z" } : MethodName) prog_9_method_19_code (6 : Nat) (Option.some FieldType.boolean)) ∈ gT := gT_4 (List.mem_of_getElem? (i := 86) rfl) rfl
theorem t_807 : (Cond.methodLink "DotSheetModel" (81 : Nat) ({ cls := "DotSheetModel", name := "bit", desc := "(I)Z" } : MethodName)) ∈ gT := gT_4 (List.mem_of_getElem? (i := 87) rfl) rfl
theorem b_808 : (Cond.privateMethod ({ cls := "DotSheetModel", name := "bit", desc := "(I)Z" } : MethodName)) ∈ lw_tbl := List.mem_append_right _ (List.mem_append_right _ (List.mem_append_right _ (List.mem_append_right _ (List.mem_of_getElem? (i := 88) rfl))))
theorem t_809 : (Cond.instanceMethod ({ cls := "DotSheetModel", name := "bit", desc := "(I)Z" } : MethodName)) ∈ gT := gT_4 (List.mem_of_getElem? (i := 89) rfl) rfl
theorem t_810 : (Cond.code ({ cls := "DotSheetModel", name := "bit", desc := "(I)Z" } : MethodName) prog_9_method_10_code (2 : Nat) (Option.some FieldType.boolean)) ∈ gT := gT_4 (List.mem_of_getElem? (i := 90) rfl) rfl
theorem t_811 : (Cond.methodLink "DotSheetModel" (97 : Nat) ({ cls := "DotSheetModel", name := "along", desc := "(II)I" } : MethodName)) ∈ gT := gT_4 (List.mem_of_getElem? (i := 91) rfl) rfl
theorem b_812 : (Cond.privateMethod ({ cls := "DotSheetModel", name := "along", desc := "(II)I" } : MethodName)) ∈ lw_tbl := List.mem_append_right _ (List.mem_append_right _ (List.mem_append_right _ (List.mem_append_right _ (List.mem_of_getElem? (i := 92) rfl))))
theorem t_813 : (Cond.instanceMethod ({ cls := "DotSheetModel", name := "along", desc := "(II)I" } : MethodName)) ∈ gT := gT_4 (List.mem_of_getElem? (i := 93) rfl) rfl
theorem t_814 : (Cond.code ({ cls := "DotSheetModel", name := "along", desc := "(II)I" } : MethodName) prog_9_method_15_code (3 : Nat) (Option.some FieldType.int)) ∈ gT := gT_4 (List.mem_of_getElem? (i := 94) rfl) rfl
theorem t_815 : (Cond.methodLink "DotSheetModel" (101 : Nat) ({ cls := "DotSheetModel", name := "across", desc := "(II)I" } : MethodName)) ∈ gT := gT_4 (List.mem_of_getElem? (i := 95) rfl) rfl
theorem b_816 : (Cond.privateMethod ({ cls := "DotSheetModel", name := "across", desc := "(II)I" } : MethodName)) ∈ lw_tbl := List.mem_append_right _ (List.mem_append_right _ (List.mem_append_right _ (List.mem_append_right _ (List.mem_of_getElem? (i := 96) rfl))))
theorem t_817 : (Cond.instanceMethod ({ cls := "DotSheetModel", name := "across", desc := "(II)I" } : MethodName)) ∈ gT := gT_4 (List.mem_of_getElem? (i := 97) rfl) rfl
theorem t_818 : (Cond.code ({ cls := "DotSheetModel", name := "across", desc := "(II)I" } : MethodName) prog_9_method_16_code (3 : Nat) (Option.some FieldType.int)) ∈ gT := gT_4 (List.mem_of_getElem? (i := 98) rfl) rfl
theorem t_819 : (Cond.methodLink "DotSheetModel" (104 : Nat) ({ cls := "DotSheetModel", name := "inText", desc := "(II)Z" } : MethodName)) ∈ gT := gT_4 (List.mem_of_getElem? (i := 99) rfl) rfl
theorem b_820 : (Cond.privateMethod ({ cls := "DotSheetModel", name := "inText", desc := "(II)Z" } : MethodName)) ∈ lw_tbl := List.mem_append_right _ (List.mem_append_right _ (List.mem_append_right _ (List.mem_append_right _ (List.mem_of_getElem? (i := 100) rfl))))
theorem t_821 : (Cond.instanceMethod ({ cls := "DotSheetModel", name := "inText", desc := "(II)Z" } : MethodName)) ∈ gT := gT_4 (List.mem_of_getElem? (i := 101) rfl) rfl
theorem t_822 : (Cond.code ({ cls := "DotSheetModel", name := "inText", desc := "(II)Z" } : MethodName) prog_9_method_17_code (7 : Nat) (Option.some FieldType.boolean)) ∈ gT := gT_4 (List.mem_of_getElem? (i := 102) rfl) rfl
theorem t_823 : (Cond.methodLink "DotSheetModel" (107 : Nat) ({ cls := "DotSheetModel", name := "inSquare", desc := "(II)Z" } : MethodName)) ∈ gT := gT_4 (List.mem_of_getElem? (i := 103) rfl) rfl
theorem b_824 : (Cond.privateMethod ({ cls := "DotSheetModel", name := "inSquare", desc := "(II)Z" } : MethodName)) ∈ lw_tbl := List.mem_append_right _ (List.mem_append_right _ (List.mem_append_right _ (List.mem_append_right _ (List.mem_of_getElem? (i := 104) rfl))))
theorem t_825 : (Cond.instanceMethod ({ cls := "DotSheetModel", name := "inSquare", desc := "(II)Z" } : MethodName)) ∈ gT := gT_4 (List.mem_of_getElem? (i := 105) rfl) rfl
theorem t_826 : (Cond.code ({ cls := "DotSheetModel", name := "inSquare", desc := "(II)Z" } : MethodName) prog_9_method_18_code (5 : Nat) (Option.some FieldType.boolean)) ∈ gT := gT_4 (List.mem_of_getElem? (i := 106) rfl) rfl
theorem t_827 : (Cond.methodLink "DotSheetModel" (114 : Nat) ({ cls := "DotSheetModel", name := "isDark", desc := "(II)Z" } : MethodName)) ∈ gT := gT_4 (List.mem_of_getElem? (i := 107) rfl) rfl
theorem b_828 : (Cond.privateMethod ({ cls := "DotSheetModel", name := "isDark", desc := "(II)Z" } : MethodName)) ∈ lw_tbl := List.mem_append_right _ (List.mem_append_right _ (List.mem_append_right _ (List.mem_append_right _ (List.mem_of_getElem? (i := 108) rfl))))
theorem t_829 : (Cond.instanceMethod ({ cls := "DotSheetModel", name := "isDark", desc := "(II)Z" } : MethodName)) ∈ gT := gT_4 (List.mem_of_getElem? (i := 109) rfl) rfl
theorem t_830 : (Cond.code ({ cls := "DotSheetModel", name := "isDark", desc := "(II)Z" } : MethodName) prog_9_method_4_code (3 : Nat) (Option.some FieldType.boolean)) ∈ gT := gT_4 (List.mem_of_getElem? (i := 110) rfl) rfl
theorem t_831 : (Cond.methodLink "DotSheetModel" (40 : Nat) ({ cls := "DotSheetModel", name := "isOn", desc := "(II)Z" } : MethodName)) ∈ gT := gT_4 (List.mem_of_getElem? (i := 111) rfl) rfl
theorem b_832 : (Cond.privateMethod ({ cls := "DotSheetModel", name := "isOn", desc := "(II)Z" } : MethodName)) ∈ lw_tbl := List.mem_append_right _ (List.mem_append_right _ (List.mem_append_right _ (List.mem_append_right _ (List.mem_of_getElem? (i := 112) rfl))))
theorem t_833 : (Cond.instanceMethod ({ cls := "DotSheetModel", name := "isOn", desc := "(II)Z" } : MethodName)) ∈ gT := gT_4 (List.mem_of_getElem? (i := 113) rfl) rfl
theorem t_834 : (Cond.code ({ cls := "DotSheetModel", name := "isOn", desc := "(II)Z" } : MethodName) prog_9_method_3_code (3 : Nat) (Option.some FieldType.boolean)) ∈ gT := gT_4 (List.mem_of_getElem? (i := 114) rfl) rfl
theorem t_835 : (Cond.methodLink "DotSheetModel" (117 : Nat) ({ cls := "DotSheetModel", name := "other", desc := "(II)V" } : MethodName)) ∈ gT := gT_4 (List.mem_of_getElem? (i := 115) rfl) rfl
theorem b_836 : (Cond.privateMethod ({ cls := "DotSheetModel", name := "other", desc := "(II)V" } : MethodName)) ∈ lw_tbl := List.mem_append_right _ (List.mem_append_right _ (List.mem_append_right _ (List.mem_append_right _ (List.mem_of_getElem? (i := 116) rfl))))
theorem t_837 : (Cond.instanceMethod ({ cls := "DotSheetModel", name := "other", desc := "(II)V" } : MethodName)) ∈ gT := gT_4 (List.mem_of_getElem? (i := 117) rfl) rfl
theorem t_838 : (Cond.code ({ cls := "DotSheetModel", name := "other", desc := "(II)V" } : MethodName) prog_9_method_5_code (3 : Nat) (Option.none : Option FieldType)) ∈ gT := gT_4 (List.mem_of_getElem? (i := 118) rfl) rfl
theorem t_839 : (Cond.methodLink "DotSheetLaw" (110 : Nat) ({ cls := "DotSheetModel", name := "line", desc := "(IIIII)I" } : MethodName)) ∈ gT := gT_4 (List.mem_of_getElem? (i := 119) rfl) rfl
theorem t_840 : (Cond.instanceMethod ({ cls := "DotSheetModel", name := "line", desc := "(IIIII)I" } : MethodName)) ∈ gT := gT_4 (List.mem_of_getElem? (i := 120) rfl) rfl
theorem t_841 : (Cond.selects "DotSheetModel" ({ cls := "DotSheetModel", name := "line", desc := "(IIIII)I" } : MethodName) ({ cls := "DotSheetModel", name := "line", desc := "(IIIII)I" } : MethodName)) ∈ gT := gT_4 (List.mem_of_getElem? (i := 121) rfl) rfl
theorem t_842 : (Cond.code ({ cls := "DotSheetModel", name := "line", desc := "(IIIII)I" } : MethodName) prog_9_method_27_code (6 : Nat) (Option.some FieldType.int)) ∈ gT := gT_4 (List.mem_of_getElem? (i := 122) rfl) rfl
theorem t_843 : (Cond.methodLink "DotSheetLaw" (113 : Nat) ({ cls := "DotSheetModel", name := "ellipse", desc := "(IIIII)I" } : MethodName)) ∈ gT := gT_4 (List.mem_of_getElem? (i := 123) rfl) rfl
theorem t_844 : (Cond.instanceMethod ({ cls := "DotSheetModel", name := "ellipse", desc := "(IIIII)I" } : MethodName)) ∈ gT := gT_4 (List.mem_of_getElem? (i := 124) rfl) rfl
theorem t_845 : (Cond.selects "DotSheetModel" ({ cls := "DotSheetModel", name := "ellipse", desc := "(IIIII)I" } : MethodName) ({ cls := "DotSheetModel", name := "ellipse", desc := "(IIIII)I" } : MethodName)) ∈ gT := gT_4 (List.mem_of_getElem? (i := 125) rfl) rfl
theorem t_846 : (Cond.code ({ cls := "DotSheetModel", name := "ellipse", desc := "(IIIII)I" } : MethodName) prog_9_method_28_code (6 : Nat) (Option.some FieldType.int)) ∈ gT := gT_4 (List.mem_of_getElem? (i := 126) rfl) rfl
theorem t_847 : (Cond.methodLink "DotSheetLaw" (117 : Nat) ({ cls := "DotSheetModel", name := "font", desc := "(IIII)V" } : MethodName)) ∈ gT := gT_4 (List.mem_of_getElem? (i := 127) rfl) rfl
theorem t_848 : (Cond.instanceMethod ({ cls := "DotSheetModel", name := "font", desc := "(IIII)V" } : MethodName)) ∈ gT := gT_4 (List.mem_of_getElem? (i := 128) rfl) rfl
theorem t_849 : (Cond.selects "DotSheetModel" ({ cls := "DotSheetModel", name := "font", desc := "(IIII)V" } : MethodName) ({ cls := "DotSheetModel", name := "font", desc := "(IIII)V" } : MethodName)) ∈ gT := gT_4 (List.mem_of_getElem? (i := 129) rfl) rfl
theorem t_850 : (Cond.code ({ cls := "DotSheetModel", name := "font", desc := "(IIII)V" } : MethodName) prog_9_method_29_code (6 : Nat) (Option.none : Option FieldType)) ∈ gT := gT_4 (List.mem_of_getElem? (i := 130) rfl) rfl
theorem t_851 : (Cond.methodLink "DotSheetLaw" (120 : Nat) ({ cls := "DotSheetModel", name := "cell", desc := "(IIII)V" } : MethodName)) ∈ gT := gT_4 (List.mem_of_getElem? (i := 131) rfl) rfl
theorem t_852 : (Cond.instanceMethod ({ cls := "DotSheetModel", name := "cell", desc := "(IIII)V" } : MethodName)) ∈ gT := gT_4 (List.mem_of_getElem? (i := 132) rfl) rfl
theorem t_853 : (Cond.selects "DotSheetModel" ({ cls := "DotSheetModel", name := "cell", desc := "(IIII)V" } : MethodName) ({ cls := "DotSheetModel", name := "cell", desc := "(IIII)V" } : MethodName)) ∈ gT := gT_4 (List.mem_of_getElem? (i := 133) rfl) rfl
theorem t_854 : (Cond.code ({ cls := "DotSheetModel", name := "cell", desc := "(IIII)V" } : MethodName) prog_9_method_30_code (5 : Nat) (Option.none : Option FieldType)) ∈ gT := gT_4 (List.mem_of_getElem? (i := 134) rfl) rfl
theorem t_855 : (Cond.methodLink "DotSheetLaw" (123 : Nat) ({ cls := "DotSheetModel", name := "text", desc := "(IIIII)I" } : MethodName)) ∈ gT := gT_4 (List.mem_of_getElem? (i := 135) rfl) rfl
theorem t_856 : (Cond.instanceMethod ({ cls := "DotSheetModel", name := "text", desc := "(IIIII)I" } : MethodName)) ∈ gT := gT_4 (List.mem_of_getElem? (i := 136) rfl) rfl
theorem t_857 : (Cond.selects "DotSheetModel" ({ cls := "DotSheetModel", name := "text", desc := "(IIIII)I" } : MethodName) ({ cls := "DotSheetModel", name := "text", desc := "(IIIII)I" } : MethodName)) ∈ gT := gT_4 (List.mem_of_getElem? (i := 137) rfl) rfl
theorem t_858 : (Cond.code ({ cls := "DotSheetModel", name := "text", desc := "(IIIII)I" } : MethodName) prog_9_method_31_code (6 : Nat) (Option.some FieldType.int)) ∈ gT := gT_4 (List.mem_of_getElem? (i := 138) rfl) rfl
theorem t_859 : (Cond.methodLink "DotSheetLaw" (126 : Nat) ({ cls := "DotSheetModel", name := "bars", desc := "(IIIII)I" } : MethodName)) ∈ gT := gT_4 (List.mem_of_getElem? (i := 139) rfl) rfl
theorem t_860 : (Cond.instanceMethod ({ cls := "DotSheetModel", name := "bars", desc := "(IIIII)I" } : MethodName)) ∈ gT := gT_4 (List.mem_of_getElem? (i := 140) rfl) rfl
theorem t_861 : (Cond.selects "DotSheetModel" ({ cls := "DotSheetModel", name := "bars", desc := "(IIIII)I" } : MethodName) ({ cls := "DotSheetModel", name := "bars", desc := "(IIIII)I" } : MethodName)) ∈ gT := gT_4 (List.mem_of_getElem? (i := 141) rfl) rfl
theorem t_862 : (Cond.code ({ cls := "DotSheetModel", name := "bars", desc := "(IIIII)I" } : MethodName) prog_9_method_32_code (9 : Nat) (Option.some FieldType.int)) ∈ gT := gT_4 (List.mem_of_getElem? (i := 142) rfl) rfl
theorem t_863 : (Cond.methodLink "DotSheetLaw" (129 : Nat) ({ cls := "DotSheetModel", name := "square", desc := "(IIIII)I" } : MethodName)) ∈ gT := gT_4 (List.mem_of_getElem? (i := 143) rfl) rfl
theorem t_864 : (Cond.instanceMethod ({ cls := "DotSheetModel", name := "square", desc := "(IIIII)I" } : MethodName)) ∈ gT := gT_4 (List.mem_of_getElem? (i := 144) rfl) rfl
theorem t_865 : (Cond.selects "DotSheetModel" ({ cls := "DotSheetModel", name := "square", desc := "(IIIII)I" } : MethodName) ({ cls := "DotSheetModel", name := "square", desc := "(IIIII)I" } : MethodName)) ∈ gT := gT_4 (List.mem_of_getElem? (i := 145) rfl) rfl
theorem t_866 : (Cond.code ({ cls := "DotSheetModel", name := "square", desc := "(IIIII)I" } : MethodName) prog_9_method_33_code (6 : Nat) (Option.some FieldType.int)) ∈ gT := gT_4 (List.mem_of_getElem? (i := 146) rfl) rfl
theorem t_867 : (Cond.methodLink "DotSheetLaw" (133 : Nat) ({ cls := "DotSheetModel", name := "picture", desc := "(III)I" } : MethodName)) ∈ gT := gT_4 (List.mem_of_getElem? (i := 147) rfl) rfl
theorem t_868 : (Cond.instanceMethod ({ cls := "DotSheetModel", name := "picture", desc := "(III)I" } : MethodName)) ∈ gT := gT_4 (List.mem_of_getElem? (i := 148) rfl) rfl
theorem t_869 : (Cond.selects "DotSheetModel" ({ cls := "DotSheetModel", name := "picture", desc := "(III)I" } : MethodName) ({ cls := "DotSheetModel", name := "picture", desc := "(III)I" } : MethodName)) ∈ gT := gT_4 (List.mem_of_getElem? (i := 149) rfl) rfl
theorem t_870 : (Cond.code ({ cls := "DotSheetModel", name := "picture", desc := "(III)I" } : MethodName) prog_9_method_34_code (4 : Nat) (Option.some FieldType.int)) ∈ gT := gT_4 (List.mem_of_getElem? (i := 150) rfl) rfl
theorem t_871 : (Cond.methodLink "DotSheetLaw" (137 : Nat) ({ cls := "DotSheetModel", name := "turn", desc := "(I)V" } : MethodName)) ∈ gT := gT_4 (List.mem_of_getElem? (i := 151) rfl) rfl
theorem t_872 : (Cond.instanceMethod ({ cls := "DotSheetModel", name := "turn", desc := "(I)V" } : MethodName)) ∈ gT := gT_4 (List.mem_of_getElem? (i := 152) rfl) rfl
theorem t_873 : (Cond.selects "DotSheetModel" ({ cls := "DotSheetModel", name := "turn", desc := "(I)V" } : MethodName) ({ cls := "DotSheetModel", name := "turn", desc := "(I)V" } : MethodName)) ∈ gT := gT_4 (List.mem_of_getElem? (i := 153) rfl) rfl
theorem t_874 : (Cond.code ({ cls := "DotSheetModel", name := "turn", desc := "(I)V" } : MethodName) prog_9_method_36_code (3 : Nat) (Option.none : Option FieldType)) ∈ gT := gT_4 (List.mem_of_getElem? (i := 154) rfl) rfl
theorem t_875 : (Cond.methodLink "DotSheetModel" (138 : Nat) ({ cls := "DotSheetModel", name := "turnOnce", desc := "()V" } : MethodName)) ∈ gT := gT_4 (List.mem_of_getElem? (i := 155) rfl) rfl
theorem b_876 : (Cond.privateMethod ({ cls := "DotSheetModel", name := "turnOnce", desc := "()V" } : MethodName)) ∈ lw_tbl := List.mem_append_right _ (List.mem_append_right _ (List.mem_append_right _ (List.mem_append_right _ (List.mem_of_getElem? (i := 156) rfl))))
theorem t_877 : (Cond.instanceMethod ({ cls := "DotSheetModel", name := "turnOnce", desc := "()V" } : MethodName)) ∈ gT := gT_4 (List.mem_of_getElem? (i := 157) rfl) rfl
theorem t_878 : (Cond.code ({ cls := "DotSheetModel", name := "turnOnce", desc := "()V" } : MethodName) prog_9_method_35_code (5 : Nat) (Option.none : Option FieldType)) ∈ gT := gT_4 (List.mem_of_getElem? (i := 158) rfl) rfl
theorem t_879 : (Cond.methodLink "DotSheetLaw" (140 : Nat) ({ cls := "DotSheetModel", name := "told", desc := "(I)I" } : MethodName)) ∈ gT := gT_4 (List.mem_of_getElem? (i := 159) rfl) rfl
theorem t_880 : (Cond.instanceMethod ({ cls := "DotSheetModel", name := "told", desc := "(I)I" } : MethodName)) ∈ gT := gT_4 (List.mem_of_getElem? (i := 160) rfl) rfl
theorem t_881 : (Cond.selects "DotSheetModel" ({ cls := "DotSheetModel", name := "told", desc := "(I)I" } : MethodName) ({ cls := "DotSheetModel", name := "told", desc := "(I)I" } : MethodName)) ∈ gT := gT_4 (List.mem_of_getElem? (i := 161) rfl) rfl
theorem t_882 : (Cond.code ({ cls := "DotSheetModel", name := "told", desc := "(I)I" } : MethodName) prog_9_method_37_code (7 : Nat) (Option.some FieldType.int)) ∈ gT := gT_4 (List.mem_of_getElem? (i := 162) rfl) rfl
theorem t_883 : (Cond.methodLink "DotSheetLaw" (144 : Nat) ({ cls := "DotSheetModel", name := "count", desc := "(IIII)I" } : MethodName)) ∈ gT := gT_4 (List.mem_of_getElem? (i := 163) rfl) rfl
theorem t_884 : (Cond.instanceMethod ({ cls := "DotSheetModel", name := "count", desc := "(IIII)I" } : MethodName)) ∈ gT := gT_4 (List.mem_of_getElem? (i := 164) rfl) rfl
theorem t_885 : (Cond.selects "DotSheetModel" ({ cls := "DotSheetModel", name := "count", desc := "(IIII)I" } : MethodName) ({ cls := "DotSheetModel", name := "count", desc := "(IIII)I" } : MethodName)) ∈ gT := gT_4 (List.mem_of_getElem? (i := 165) rfl) rfl
theorem t_886 : (Cond.code ({ cls := "DotSheetModel", name := "count", desc := "(IIII)I" } : MethodName) prog_9_method_38_code (8 : Nat) (Option.some FieldType.int)) ∈ gT := gT_4 (List.mem_of_getElem? (i := 166) rfl) rfl
theorem t_887 : (Cond.methodLink "DotSheetLaw" (147 : Nat) ({ cls := "DotSheetModel", name := "dots", desc := "(III)J" } : MethodName)) ∈ gT := gT_4 (List.mem_of_getElem? (i := 167) rfl) rfl
theorem t_888 : (Cond.instanceMethod ({ cls := "DotSheetModel", name := "dots", desc := "(III)J" } : MethodName)) ∈ gT := gT_4 (List.mem_of_getElem? (i := 168) rfl) rfl
theorem t_889 : (Cond.selects "DotSheetModel" ({ cls := "DotSheetModel", name := "dots", desc := "(III)J" } : MethodName) ({ cls := "DotSheetModel", name := "dots", desc := "(III)J" } : MethodName)) ∈ gT := gT_4 (List.mem_of_getElem? (i := 169) rfl) rfl
theorem t_890 : (Cond.code ({ cls := "DotSheetModel", name := "dots", desc := "(III)J" } : MethodName) prog_9_method_39_code (7 : Nat) (Option.some FieldType.long)) ∈ gT := gT_4 (List.mem_of_getElem? (i := 170) rfl) rfl
theorem t_891 : (Cond.methodLink "DotSheetLaw" (151 : Nat) ({ cls := "DotSheetModel", name := "run", desc := "(IIIZ)I" } : MethodName)) ∈ gT := gT_4 (List.mem_of_getElem? (i := 171) rfl) rfl
theorem t_892 : (Cond.instanceMethod ({ cls := "DotSheetModel", name := "run", desc := "(IIIZ)I" } : MethodName)) ∈ gT := gT_4 (List.mem_of_getElem? (i := 172) rfl) rfl
theorem t_893 : (Cond.selects "DotSheetModel" ({ cls := "DotSheetModel", name := "run", desc := "(IIIZ)I" } : MethodName) ({ cls := "DotSheetModel", name := "run", desc := "(IIIZ)I" } : MethodName)) ∈ gT := gT_4 (List.mem_of_getElem? (i := 173) rfl) rfl
theorem t_894 : (Cond.code ({ cls := "DotSheetModel", name := "run", desc := "(IIIZ)I" } : MethodName) prog_9_method_40_code (11 : Nat) (Option.some FieldType.int)) ∈ gT := gT_4 (List.mem_of_getElem? (i := 174) rfl) rfl
theorem t_895 : (Cond.constantLong "DotSheetLaw" (94 : Nat) (4294967295 : Int64)) ∈ gT := gT_4 (List.mem_of_getElem? (i := 175) rfl) rfl
theorem t_896 : (Cond.sameMethod "java/lang/Throwable" "java/lang/Throwable" "fillInStackTrace" "(I)Ljava/lang/Throwable;") ∈ gT := gT_4 (List.mem_of_getElem? (i := 176) rfl) rfl
theorem s_0 : Cond.selects "java/lang/Throwable" (⟨"java/lang/Throwable", "fillInStackTrace", "(I)Ljava/lang/Throwable;"⟩ : MethodName) (⟨"java/lang/Throwable", "fillInStackTrace", "(I)Ljava/lang/Throwable;"⟩ : MethodName) ∈ gT := gT_p 0 rfl
theorem s_1 : Cond.selects "DotSheet$Paper" (⟨"DotSheet$Paper", "change", "(IJ)V"⟩ : MethodName) (⟨"DotSheet$Paper", "change", "(IJ)V"⟩ : MethodName) ∈ gT := gT_p 1 rfl
theorem s_2 : Cond.selects "DotSheet$Stroke" (⟨"DotSheet$Stroke", "widenByEnd", "(II)V"⟩ : MethodName) (⟨"DotSheet$Stroke", "widenByEnd", "(II)V"⟩ : MethodName) ∈ gT := gT_p 2 rfl
theorem s_3 : Cond.selects "DotSheet$Stroke" (⟨"DotSheet$Stroke", "widen", "(II)V"⟩ : MethodName) (⟨"DotSheet$Stroke", "widen", "(II)V"⟩ : MethodName) ∈ gT := gT_p 3 rfl
theorem s_4 : Cond.selects "DotSheet$Stroke" (⟨"DotSheet$Stroke", "widenBySide", "(I)V"⟩ : MethodName) (⟨"DotSheet$Stroke", "widenBySide", "(I)V"⟩ : MethodName) ∈ gT := gT_p 4 rfl
theorem s_5 : Cond.selects "DotSheet" (⟨"DotSheet", "drawEllipseRow", "(IIIII)I"⟩ : MethodName) (⟨"DotSheet", "drawEllipseRow", "(IIIII)I"⟩ : MethodName) ∈ gT := gT_p 5 rfl
theorem s_6 : Cond.selects "DotSheet$Steps" (⟨"DotSheet$Steps", "place", "(IIII)V"⟩ : MethodName) (⟨"DotSheet$Steps", "place", "(IIII)V"⟩ : MethodName) ∈ gT := gT_p 6 rfl
theorem s_7 : Cond.selects "DotSheet$Steps" (⟨"DotSheet$Steps", "bound", "(IIII)V"⟩ : MethodName) (⟨"DotSheet$Steps", "bound", "(IIII)V"⟩ : MethodName) ∈ gT := gT_p 7 rfl
theorem s_8 : Cond.selects "DotSheet" (⟨"DotSheet", "drawCell", "(LDotSheet$Font;IIII)I"⟩ : MethodName) (⟨"DotSheet", "drawCell", "(LDotSheet$Font;IIII)I"⟩ : MethodName) ∈ gT := gT_p 8 rfl
theorem s_9 : Cond.selects "DotSheet$Paper" (⟨"DotSheet$Paper", "takeBlock", "(II)V"⟩ : MethodName) (⟨"DotSheet$Paper", "takeBlock", "(II)V"⟩ : MethodName) ∈ gT := gT_p 9 rfl
theorem s_10 : Cond.selects "DotSheet$Paper" (⟨"DotSheet$Paper", "transposeBlock", "()V"⟩ : MethodName) (⟨"DotSheet$Paper", "transposeBlock", "()V"⟩ : MethodName) ∈ gT := gT_p 10 rfl
theorem s_11 : Cond.selects "DotSheet$Paper" (⟨"DotSheet$Paper", "putBlock", "(II)V"⟩ : MethodName) (⟨"DotSheet$Paper", "putBlock", "(II)V"⟩ : MethodName) ∈ gT := gT_p 11 rfl
theorem s_12 : Cond.selects "DotSheet$Paper" (⟨"DotSheet$Paper", "allOfColumn", "(I)J"⟩ : MethodName) (⟨"DotSheet$Paper", "allOfColumn", "(I)J"⟩ : MethodName) ∈ gT := gT_p 12 rfl
theorem s_13 : Cond.selects "DotSheet$Paper" (⟨"DotSheet$Paper", "hasDarkInRow", "(I)Z"⟩ : MethodName) (⟨"DotSheet$Paper", "hasDarkInRow", "(I)Z"⟩ : MethodName) ∈ gT := gT_p 13 rfl
theorem s_14 : Cond.selects "DotSheet$Paper" (⟨"DotSheet$Paper", "runLength", "(IIIIII)I"⟩ : MethodName) (⟨"DotSheet$Paper", "runLength", "(IIIIII)I"⟩ : MethodName) ∈ gT := gT_p 14 rfl
theorem s_15 : Cond.selects "DotSheetModel" (⟨"DotSheetModel", "at", "(IIIII)V"⟩ : MethodName) (⟨"DotSheetModel", "at", "(IIIII)V"⟩ : MethodName) ∈ gT := gT_p 15 rfl
theorem s_16 : Cond.selects "DotSheetModel" (⟨"DotSheetModel", "draw", "(I)I"⟩ : MethodName) (⟨"DotSheetModel", "draw", "(I)I"⟩ : MethodName) ∈ gT := gT_p 16 rfl
theorem s_17 : Cond.selects "DotSheetModel" (⟨"DotSheetModel", "belongs", "(III)Z"⟩ : MethodName) (⟨"DotSheetModel", "belongs", "(III)Z"⟩ : MethodName) ∈ gT := gT_p 17 rfl
theorem s_18 : Cond.selects "DotSheetModel" (⟨"DotSheetModel", "inFrame", "(II)Z"⟩ : MethodName) (⟨"DotSheetModel", "inFrame", "(II)Z"⟩ : MethodName) ∈ gT := gT_p 18 rfl
theorem s_19 : Cond.selects "DotSheetModel" (⟨"DotSheetModel", "inLine", "(II)Z"⟩ : MethodName) (⟨"DotSheetModel", "inLine", "(II)Z"⟩ : MethodName) ∈ gT := gT_p 19 rfl
theorem s_20 : Cond.selects "DotSheetModel" (⟨"DotSheetModel", "inEllipse", "(II)Z"⟩ : MethodName) (⟨"DotSheetModel", "inEllipse", "(II)Z"⟩ : MethodName) ∈ gT := gT_p 20 rfl
theorem s_21 : Cond.selects "DotSheetModel" (⟨"DotSheetModel", "inPicture", "(II)Z"⟩ : MethodName) (⟨"DotSheetModel", "inPicture", "(II)Z"⟩ : MethodName) ∈ gT := gT_p 21 rfl
theorem s_22 : Cond.selects "DotSheetModel" (⟨"DotSheetModel", "bit", "(I)Z"⟩ : MethodName) (⟨"DotSheetModel", "bit", "(I)Z"⟩ : MethodName) ∈ gT := gT_p 22 rfl
theorem s_23 : Cond.selects "DotSheetModel" (⟨"DotSheetModel", "along", "(II)I"⟩ : MethodName) (⟨"DotSheetModel", "along", "(II)I"⟩ : MethodName) ∈ gT := gT_p 23 rfl
theorem s_24 : Cond.selects "DotSheetModel" (⟨"DotSheetModel", "across", "(II)I"⟩ : MethodName) (⟨"DotSheetModel", "across", "(II)I"⟩ : MethodName) ∈ gT := gT_p 24 rfl
theorem s_25 : Cond.selects "DotSheetModel" (⟨"DotSheetModel", "inText", "(II)Z"⟩ : MethodName) (⟨"DotSheetModel", "inText", "(II)Z"⟩ : MethodName) ∈ gT := gT_p 25 rfl
theorem s_26 : Cond.selects "DotSheetModel" (⟨"DotSheetModel", "inSquare", "(II)Z"⟩ : MethodName) (⟨"DotSheetModel", "inSquare", "(II)Z"⟩ : MethodName) ∈ gT := gT_p 26 rfl
theorem s_27 : Cond.selects "DotSheetModel" (⟨"DotSheetModel", "isDark", "(II)Z"⟩ : MethodName) (⟨"DotSheetModel", "isDark", "(II)Z"⟩ : MethodName) ∈ gT := gT_p 27 rfl
theorem s_28 : Cond.selects "DotSheetModel" (⟨"DotSheetModel", "isOn", "(II)Z"⟩ : MethodName) (⟨"DotSheetModel", "isOn", "(II)Z"⟩ : MethodName) ∈ gT := gT_p 28 rfl
theorem s_29 : Cond.selects "DotSheetModel" (⟨"DotSheetModel", "other", "(II)V"⟩ : MethodName) (⟨"DotSheetModel", "other", "(II)V"⟩ : MethodName) ∈ gT := gT_p 29 rfl
theorem s_30 : Cond.selects "DotSheetModel" (⟨"DotSheetModel", "turnOnce", "()V"⟩ : MethodName) (⟨"DotSheetModel", "turnOnce", "()V"⟩ : MethodName) ∈ gT := gT_p 30 rfl
theorem gV {own C : String} {idx n : Nat} {y : MethodName} {b : ByteArray} {r : Option FieldType} (h1 : Cond.methodLink own idx y ∈ gT) (h2 : Cond.instanceMethod y ∈ gT) (h3 : Cond.selects C y y ∈ gT) (h4 : Cond.initialized C ∈ gT) (h5 : Cond.code y b n r ∈ gT) : GoodIn gT (wsV own idx C y (.code y b n r :: gT)) := by
  intro w h
  have hm : w ∈ gT := by
    simp only [wsV, List.cons_append, List.nil_append, List.mem_cons] at h
    rcases h with rfl | rfl | rfl | rfl | rfl | h
    · exact h1
    · exact h2
    · exact h3
    · exact h4
    · exact h5
    · exact h
  exact gT_good w hm
theorem gC {y : MethodName} {b : ByteArray} {n : Nat} {r : Option FieldType} (h5 : Cond.code y b n r ∈ gT) : GoodIn gT (.code y b n r :: gT) := by
  intro w h
  rcases List.mem_cons.mp h with rfl | h
  · exact gT_good _ h5
  · exact gT_good _ h
theorem gS {own : String} {idx n : Nat} {y : MethodName} {b : ByteArray} {r : Option FieldType} (h1 : Cond.methodLink own idx y ∈ gT) (h2 : Cond.static y ∈ gT) (h4 : Cond.initialized y.cls ∈ gT) (h5 : Cond.code y b n r ∈ gT) : GoodIn gT (va_wsS own idx y (.code y b n r :: gT)) := by
  intro w h
  have hm : w ∈ gT := by
    simp only [va_wsS, List.cons_append, List.nil_append, List.mem_cons] at h
    rcases h with rfl | rfl | rfl | rfl | h
    · exact h1
    · exact h2
    · exact h4
    · exact h5
    · exact h
  exact gT_good w hm

