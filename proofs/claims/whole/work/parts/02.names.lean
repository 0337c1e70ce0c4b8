/-! names of classes, fields and methods -/
abbrev R_Dr : String := "DotSheet$Draft"
def T_Dr : u_T := fun k => match k with
  | 0 => ("DotSheet$Draft", "size", "I", false)
  | _ => ("DotSheet$Draft", "bytes", "[B", true)
def ty_Dr : Nat → FieldType := fun k => match k with
  | 0 => .int
  | _ => .array .byte
theorem nd_Dr : ∀ a, a < 2 → ∀ b, b < 2 → a ≠ b → (T_Dr a).2.1 ≠ (T_Dr b).2.1 := by decide +kernel
theorem ty_Dr_ok : ∀ k, k < 2 → parseFieldDescriptor (T_Dr k).2.2.1 = some (ty_Dr k) := by decide +kernel
theorem wi_Dr : ∀ w ∈ u_ws R_Dr T_Dr 2, w ∈ gT := by
  intro w h
  have h : w ∈ [Cond.lays "DotSheet$Draft" "DotSheet$Draft" "size" "I", Cond.laysFinal "DotSheet$Draft" "DotSheet$Draft" "bytes" "[B"] := h
  simp only [List.mem_cons, List.not_mem_nil, or_false] at h
  rcases h with rfl | rfl
  · exact t_96
  · exact t_98
abbrev R_Fo : String := "DotSheet$Font"
def T_Fo : u_T := fun k => match k with
  | 0 => ("DotSheet$Font", "width", "I", false)
  | 1 => ("DotSheet$Font", "height", "I", false)
  | 2 => ("DotSheet$Font", "gap", "I", false)
  | _ => ("DotSheet$Font", "rows", "[I", true)
def ty_Fo : Nat → FieldType := fun k => match k with
  | 0 => .int
  | 1 => .int
  | 2 => .int
  | _ => .array .int
theorem nd_Fo : ∀ a, a < 4 → ∀ b, b < 4 → a ≠ b → (T_Fo a).2.1 ≠ (T_Fo b).2.1 := by decide +kernel
theorem ty_Fo_ok : ∀ k, k < 4 → parseFieldDescriptor (T_Fo k).2.2.1 = some (ty_Fo k) := by decide +kernel
theorem wi_Fo : ∀ w ∈ u_ws R_Fo T_Fo 4, w ∈ gT := by
  intro w h
  have h : w ∈ [Cond.lays "DotSheet$Font" "DotSheet$Font" "width" "I", Cond.lays "DotSheet$Font" "DotSheet$Font" "height" "I", Cond.lays "DotSheet$Font" "DotSheet$Font" "gap" "I", Cond.laysFinal "DotSheet$Font" "DotSheet$Font" "rows" "[I"] := h
  simp only [List.mem_cons, List.not_mem_nil, or_false] at h
  rcases h with rfl | rfl | rfl | rfl
  · exact t_116
  · exact t_118
  · exact t_120
  · exact t_122
abbrev R_Pa : String := "DotSheet$Paper"
def T_Pa : u_T := fun k => match k with
  | 0 => ("DotSheet$Paper", "width", "I", false)
  | 1 => ("DotSheet$Paper", "height", "I", false)
  | 2 => ("DotSheet$Paper", "manner", "I", false)
  | 3 => ("DotSheet$Paper", "words", "[J", false)
  | 4 => ("DotSheet$Paper", "spare", "[J", false)
  | _ => ("DotSheet$Paper", "block", "[J", true)
def ty_Pa : Nat → FieldType := fun k => match k with
  | 0 => .int
  | 1 => .int
  | 2 => .int
  | 3 => .array .long
  | 4 => .array .long
  | _ => .array .long
theorem nd_Pa : ∀ a, a < 6 → ∀ b, b < 6 → a ≠ b → (T_Pa a).2.1 ≠ (T_Pa b).2.1 := by decide +kernel
theorem ty_Pa_ok : ∀ k, k < 6 → parseFieldDescriptor (T_Pa k).2.2.1 = some (ty_Pa k) := by decide +kernel
theorem wi_Pa : ∀ w ∈ u_ws R_Pa T_Pa 6, w ∈ gT := by
  intro w h
  have h : w ∈ [Cond.lays "DotSheet$Paper" "DotSheet$Paper" "width" "I", Cond.lays "DotSheet$Paper" "DotSheet$Paper" "height" "I", Cond.lays "DotSheet$Paper" "DotSheet$Paper" "manner" "I", Cond.lays "DotSheet$Paper" "DotSheet$Paper" "words" "[J", Cond.lays "DotSheet$Paper" "DotSheet$Paper" "spare" "[J", Cond.laysFinal "DotSheet$Paper" "DotSheet$Paper" "block" "[J"] := h
  simp only [List.mem_cons, List.not_mem_nil, or_false] at h
  rcases h with rfl | rfl | rfl | rfl | rfl | rfl
  · exact t_42
  · exact t_44
  · exact t_46
  · exact t_48
  · exact t_50
  · exact t_52
abbrev R_St : String := "DotSheet$Steps"
def T_St : u_T := fun k => match k with
  | 0 => ("DotSheet$Steps", "paper", "LDotSheet$Paper;", true)
  | 1 => ("DotSheet$Steps", "x", "I", false)
  | 2 => ("DotSheet$Steps", "y", "I", false)
  | 3 => ("DotSheet$Steps", "quarter", "I", false)
  | 4 => ("DotSheet$Steps", "left", "I", false)
  | 5 => ("DotSheet$Steps", "top", "I", false)
  | 6 => ("DotSheet$Steps", "right", "I", false)
  | _ => ("DotSheet$Steps", "bottom", "I", false)
def ty_St : Nat → FieldType := fun k => match k with
  | 0 => .object "DotSheet$Paper"
  | 1 => .int
  | 2 => .int
  | 3 => .int
  | 4 => .int
  | 5 => .int
  | 6 => .int
  | _ => .int
theorem nd_St : ∀ a, a < 8 → ∀ b, b < 8 → a ≠ b → (T_St a).2.1 ≠ (T_St b).2.1 := by decide +kernel
theorem ty_St_ok : ∀ k, k < 8 → parseFieldDescriptor (T_St k).2.2.1 = some (ty_St k) := by decide +kernel
theorem wi_St : ∀ w ∈ u_ws R_St T_St 8, w ∈ gT := by
  intro w h
  have h : w ∈ [Cond.laysFinal "DotSheet$Steps" "DotSheet$Steps" "paper" "LDotSheet$Paper;", Cond.lays "DotSheet$Steps" "DotSheet$Steps" "x" "I", Cond.lays "DotSheet$Steps" "DotSheet$Steps" "y" "I", Cond.lays "DotSheet$Steps" "DotSheet$Steps" "quarter" "I", Cond.lays "DotSheet$Steps" "DotSheet$Steps" "left" "I", Cond.lays "DotSheet$Steps" "DotSheet$Steps" "top" "I", Cond.lays "DotSheet$Steps" "DotSheet$Steps" "right" "I", Cond.lays "DotSheet$Steps" "DotSheet$Steps" "bottom" "I"] := h
  simp only [List.mem_cons, List.not_mem_nil, or_false] at h
  rcases h with rfl | rfl | rfl | rfl | rfl | rfl | rfl | rfl
  · exact t_70
  · exact t_72
  · exact t_74
  · exact t_76
  · exact t_78
  · exact t_80
  · exact t_82
  · exact t_84
abbrev R_D : String := "DotSheet"
def T_D : u_T := fun k => match k with
  | 0 => ("DotSheet", "paper", "LDotSheet$Paper;", true)
  | 1 => ("DotSheet", "steps", "LDotSheet$Steps;", true)
  | 2 => ("DotSheet", "draft", "LDotSheet$Draft;", true)
  | _ => ("DotSheet", "fonts", "[LDotSheet$Font;", true)
def ty_D : Nat → FieldType := fun k => match k with
  | 0 => .object "DotSheet$Paper"
  | 1 => .object "DotSheet$Steps"
  | 2 => .object "DotSheet$Draft"
  | _ => .array (.object "DotSheet$Font")
theorem nd_D : ∀ a, a < 4 → ∀ b, b < 4 → a ≠ b → (T_D a).2.1 ≠ (T_D b).2.1 := by decide +kernel
theorem ty_D_ok : ∀ k, k < 4 → parseFieldDescriptor (T_D k).2.2.1 = some (ty_D k) := by decide +kernel
theorem wi_D : ∀ w ∈ u_ws R_D T_D 4, w ∈ gT := by
  intro w h
  have h : w ∈ [Cond.laysFinal "DotSheet" "DotSheet" "paper" "LDotSheet$Paper;", Cond.laysFinal "DotSheet" "DotSheet" "steps" "LDotSheet$Steps;", Cond.laysFinal "DotSheet" "DotSheet" "draft" "LDotSheet$Draft;", Cond.laysFinal "DotSheet" "DotSheet" "fonts" "[LDotSheet$Font;"] := h
  simp only [List.mem_cons, List.not_mem_nil, or_false] at h
  rcases h with rfl | rfl | rfl | rfl
  · exact t_130
  · exact t_132
  · exact t_134
  · exact t_136
abbrev R_Sk : String := "DotSheet$Stroke"
def T_Sk : u_T := fun k => match k with
  | 0 => ("DotSheet$Stroke", "a", "I", true)
  | 1 => ("DotSheet$Stroke", "b", "I", true)
  | 2 => ("DotSheet$Stroke", "c", "I", true)
  | 3 => ("DotSheet$Stroke", "d", "I", true)
  | 4 => ("DotSheet$Stroke", "thickness", "I", true)
  | 5 => ("DotSheet$Stroke", "dx", "J", true)
  | 6 => ("DotSheet$Stroke", "dy", "J", true)
  | 7 => ("DotSheet$Stroke", "squareLength", "J", true)
  | 8 => ("DotSheet$Stroke", "greatestCross", "J", true)
  | 9 => ("DotSheet$Stroke", "left", "I", false)
  | _ => ("DotSheet$Stroke", "right", "I", false)
def ty_Sk : Nat → FieldType := fun k => match k with
  | 0 => .int
  | 1 => .int
  | 2 => .int
  | 3 => .int
  | 4 => .int
  | 5 => .long
  | 6 => .long
  | 7 => .long
  | 8 => .long
  | 9 => .int
  | _ => .int
theorem nd_Sk : ∀ a, a < 11 → ∀ b, b < 11 → a ≠ b → (T_Sk a).2.1 ≠ (T_Sk b).2.1 := by decide +kernel
theorem ty_Sk_ok : ∀ k, k < 11 → parseFieldDescriptor (T_Sk k).2.2.1 = some (ty_Sk k) := by decide +kernel
theorem wi_Sk : ∀ w ∈ u_ws R_Sk T_Sk 11, w ∈ gT := by
  intro w h
  have h : w ∈ [Cond.laysFinal "DotSheet$Stroke" "DotSheet$Stroke" "a" "I", Cond.laysFinal "DotSheet$Stroke" "DotSheet$Stroke" "b" "I", Cond.laysFinal "DotSheet$Stroke" "DotSheet$Stroke" "c" "I", Cond.laysFinal "DotSheet$Stroke" "DotSheet$Stroke" "d" "I", Cond.laysFinal "DotSheet$Stroke" "DotSheet$Stroke" "thickness" "I", Cond.laysFinal "DotSheet$Stroke" "DotSheet$Stroke" "dx" "J", Cond.laysFinal "DotSheet$Stroke" "DotSheet$Stroke" "dy" "J", Cond.laysFinal "DotSheet$Stroke" "DotSheet$Stroke" "squareLength" "J", Cond.laysFinal "DotSheet$Stroke" "DotSheet$Stroke" "greatestCross" "J", Cond.lays "DotSheet$Stroke" "DotSheet$Stroke" "left" "I", Cond.lays "DotSheet$Stroke" "DotSheet$Stroke" "right" "I"] := h
  simp only [List.mem_cons, List.not_mem_nil, or_false] at h
  rcases h with rfl | rfl | rfl | rfl | rfl | rfl | rfl | rfl | rfl | rfl | rfl
  · exact t_324
  · exact t_326
  · exact t_328
  · exact t_330
  · exact t_332
  · exact t_334
  · exact t_336
  · exact t_338
  · exact t_340
  · exact t_342
  · exact t_344
abbrev R_Mo : String := "DotSheetModel"
def T_Mo : u_T := fun k => match k with
  | 0 => ("DotSheetModel", "thrown", "I", false)
  | 1 => ("DotSheetModel", "width", "I", false)
  | 2 => ("DotSheetModel", "height", "I", false)
  | 3 => ("DotSheetModel", "way", "I", false)
  | 4 => ("DotSheetModel", "dark", "[I", true)
  | 5 => ("DotSheetModel", "before", "[I", true)
  | 6 => ("DotSheetModel", "draft", "[I", true)
  | 7 => ("DotSheetModel", "drafted", "I", false)
  | 8 => ("DotSheetModel", "sizes", "[I", true)
  | 9 => ("DotSheetModel", "cells", "[I", true)
  | 10 => ("DotSheetModel", "fx", "I", false)
  | 11 => ("DotSheetModel", "fy", "I", false)
  | 12 => ("DotSheetModel", "fa", "I", false)
  | 13 => ("DotSheetModel", "fb", "I", false)
  | 14 => ("DotSheetModel", "fc", "I", false)
  | 15 => ("DotSheetModel", "quarter", "I", false)
  | 16 => ("DotSheetModel", "font", "I", false)
  | _ => ("DotSheetModel", "columns", "[Z", true)
def ty_Mo : Nat → FieldType := fun k => match k with
  | 0 => .int
  | 1 => .int
  | 2 => .int
  | 3 => .int
  | 4 => .array .int
  | 5 => .array .int
  | 6 => .array .int
  | 7 => .int
  | 8 => .array .int
  | 9 => .array .int
  | 10 => .int
  | 11 => .int
  | 12 => .int
  | 13 => .int
  | 14 => .int
  | 15 => .int
  | 16 => .int
  | _ => .array .boolean
theorem nd_Mo : ∀ a, a < 18 → ∀ b, b < 18 → a ≠ b → (T_Mo a).2.1 ≠ (T_Mo b).2.1 := by decide +kernel
theorem ty_Mo_ok : ∀ k, k < 18 → parseFieldDescriptor (T_Mo k).2.2.1 = some (ty_Mo k) := by decide +kernel
theorem wi_Mo : ∀ w ∈ u_ws R_Mo T_Mo 18, w ∈ gT := by
  intro w h
  have h : w ∈ [Cond.lays "DotSheetModel" "DotSheetModel" "thrown" "I", Cond.lays "DotSheetModel" "DotSheetModel" "width" "I", Cond.lays "DotSheetModel" "DotSheetModel" "height" "I", Cond.lays "DotSheetModel" "DotSheetModel" "way" "I", Cond.laysFinal "DotSheetModel" "DotSheetModel" "dark" "[I", Cond.laysFinal "DotSheetModel" "DotSheetModel" "before" "[I", Cond.laysFinal "DotSheetModel" "DotSheetModel" "draft" "[I", Cond.lays "DotSheetModel" "DotSheetModel" "drafted" "I", Cond.laysFinal "DotSheetModel" "DotSheetModel" "sizes" "[I", Cond.laysFinal "DotSheetModel" "DotSheetModel" "cells" "[I", Cond.lays "DotSheetModel" "DotSheetModel" "fx" "I", Cond.lays "DotSheetModel" "DotSheetModel" "fy" "I", Cond.lays "DotSheetModel" "DotSheetModel" "fa" "I", Cond.lays "DotSheetModel" "DotSheetModel" "fb" "I", Cond.lays "DotSheetModel" "DotSheetModel" "fc" "I", Cond.lays "DotSheetModel" "DotSheetModel" "quarter" "I", Cond.lays "DotSheetModel" "DotSheetModel" "font" "I", Cond.laysFinal "DotSheetModel" "DotSheetModel" "columns" "[Z"] := h
  simp only [List.mem_cons, List.not_mem_nil, or_false] at h
  rcases h with rfl | rfl | rfl | rfl | rfl | rfl | rfl | rfl | rfl | rfl | rfl | rfl | rfl | rfl | rfl | rfl | rfl | rfl
  · exact t_702
  · exact t_704
  · exact t_706
  · exact t_708
  · exact t_710
  · exact t_712
  · exact t_714
  · exact t_716
  · exact t_718
  · exact t_720
  · exact t_722
  · exact t_724
  · exact t_726
  · exact t_728
  · exact t_730
  · exact t_732
  · exact t_734
  · exact t_736
abbrev R_Re : String := "DotSheet$Reckoning"
abbrev R_La : String := "DotSheetLaw"
abbrev R_JM : String := "java/lang/Math"
abbrev R_JL : String := "java/lang/Long"
abbrev R_JI : String := "java/lang/Integer"
abbrev R_JA : String := "java/util/Arrays"
abbrev vwCl : List vw_C := [(R_Dr, T_Dr, 2), (R_Fo, T_Fo, 4), (R_Pa, T_Pa, 6), (R_St, T_St, 8), (R_D, T_D, 4), (R_Sk, T_Sk, 11), (R_Mo, T_Mo, 18)]
abbrev c_yD_init : ByteArray := prog_1_method_1_code
abbrev y_D_init : MethodName := ⟨"DotSheet", "<init>", "()V"⟩
abbrev w_D_init : List Cond := .code y_D_init c_yD_init 2 none :: gT
abbrev c_yD_bars : ByteArray := prog_1_method_12_code
abbrev y_D_bars : MethodName := ⟨"DotSheet", "bars", "(IIIII)I"⟩
abbrev w_D_bars : List Cond := .code y_D_bars c_yD_bars 10 (some .int) :: gT
abbrev c_yD_cell : ByteArray := prog_1_method_10_code
abbrev y_D_cell : MethodName := ⟨"DotSheet", "cell", "(IIII)V"⟩
abbrev w_D_cell : List Cond := .code y_D_cell c_yD_cell 5 none :: gT
abbrev c_yD_count : ByteArray := prog_1_method_17_code
abbrev y_D_count : MethodName := ⟨"DotSheet", "count", "(IIII)I"⟩
abbrev w_D_count : List Cond := .code y_D_count c_yD_count 5 (some .int) :: gT
abbrev c_yD_demand : ByteArray := prog_1_method_24_code
abbrev y_D_demand : MethodName := ⟨"DotSheet", "demand", "(Z)V"⟩
abbrev w_D_demand : List Cond := .code y_D_demand c_yD_demand 1 none :: gT
abbrev c_yD_demandBox : ByteArray := prog_1_method_22_code
abbrev y_D_demandBox : MethodName := ⟨"DotSheet", "demandBox", "(IIII)V"⟩
abbrev w_D_demandBox : List Cond := .code y_D_demandBox c_yD_demandBox 4 none :: gT
abbrev c_yD_demandCorner : ByteArray := prog_1_method_23_code
abbrev y_D_demandCorner : MethodName := ⟨"DotSheet", "demandCorner", "(III)V"⟩
abbrev w_D_demandCorner : List Cond := .code y_D_demandCorner c_yD_demandCorner 3 none :: gT
abbrev c_yD_dots : ByteArray := prog_1_method_18_code
abbrev y_D_dots : MethodName := ⟨"DotSheet", "dots", "(III)J"⟩
abbrev w_D_dots : List Cond := .code y_D_dots c_yD_dots 7 (some .long) :: gT
abbrev c_yD_drawCell : ByteArray := prog_1_method_21_code
abbrev y_D_drawCell : MethodName := ⟨"DotSheet", "drawCell", "(LDotSheet$Font;IIII)I"⟩
abbrev w_D_drawCell : List Cond := .code y_D_drawCell c_yD_drawCell 9 (some .int) :: gT
abbrev c_yD_drawEllipseRow : ByteArray := prog_1_method_20_code
abbrev y_D_drawEllipseRow : MethodName := ⟨"DotSheet", "drawEllipseRow", "(IIIII)I"⟩
abbrev w_D_drawEllipseRow : List Cond := .code y_D_drawEllipseRow c_yD_drawEllipseRow 8 (some .int) :: gT
abbrev c_yD_ellipse : ByteArray := prog_1_method_8_code
abbrev y_D_ellipse : MethodName := ⟨"DotSheet", "ellipse", "(IIIII)I"⟩
abbrev w_D_ellipse : List Cond := .code y_D_ellipse c_yD_ellipse 12 (some .int) :: gT
abbrev c_yD_font : ByteArray := prog_1_method_9_code
abbrev y_D_font : MethodName := ⟨"DotSheet", "font", "(IIII)V"⟩
abbrev w_D_font : List Cond := .code y_D_font c_yD_font 5 none :: gT
abbrev c_yD_frame : ByteArray := prog_1_method_6_code
abbrev y_D_frame : MethodName := ⟨"DotSheet", "frame", "(IIIII)I"⟩
abbrev w_D_frame : List Cond := .code y_D_frame c_yD_frame 10 (some .int) :: gT
abbrev c_yD_isFont : ByteArray := prog_1_method_29_code
abbrev y_D_isFont : MethodName := ⟨"DotSheet", "isFont", "(I)Z"⟩
abbrev w_D_isFont : List Cond := .code y_D_isFont c_yD_isFont 1 (some .boolean) :: gT
abbrev c_yD_isPlace : ByteArray := prog_1_method_25_code
abbrev y_D_isPlace : MethodName := ⟨"DotSheet", "isPlace", "(I)Z"⟩
abbrev w_D_isPlace : List Cond := .code y_D_isPlace c_yD_isPlace 1 (some .boolean) :: gT
abbrev c_yD_isQuarter : ByteArray := prog_1_method_28_code
abbrev y_D_isQuarter : MethodName := ⟨"DotSheet", "isQuarter", "(I)Z"⟩
abbrev w_D_isQuarter : List Cond := .code y_D_isQuarter c_yD_isQuarter 1 (some .boolean) :: gT
abbrev c_yD_isSize : ByteArray := prog_1_method_26_code
abbrev y_D_isSize : MethodName := ⟨"DotSheet", "isSize", "(I)Z"⟩
abbrev w_D_isSize : List Cond := .code y_D_isSize c_yD_isSize 1 (some .boolean) :: gT
abbrev c_yD_isThickness : ByteArray := prog_1_method_27_code
abbrev y_D_isThickness : MethodName := ⟨"DotSheet", "isThickness", "(I)Z"⟩
abbrev w_D_isThickness : List Cond := .code y_D_isThickness c_yD_isThickness 1 (some .boolean) :: gT
abbrev c_yD_isWithin : ByteArray := prog_1_method_30_code
abbrev y_D_isWithin : MethodName := ⟨"DotSheet", "isWithin", "(III)Z"⟩
abbrev w_D_isWithin : List Cond := .code y_D_isWithin c_yD_isWithin 3 (some .boolean) :: gT
abbrev c_yD_line : ByteArray := prog_1_method_7_code
abbrev y_D_line : MethodName := ⟨"DotSheet", "line", "(IIIII)I"⟩
abbrev w_D_line : List Cond := .code y_D_line c_yD_line 11 (some .int) :: gT
abbrev c_yD_picture : ByteArray := prog_1_method_14_code
abbrev y_D_picture : MethodName := ⟨"DotSheet", "picture", "(III)I"⟩
abbrev w_D_picture : List Cond := .code y_D_picture c_yD_picture 9 (some .int) :: gT
abbrev c_yD_run : ByteArray := prog_1_method_19_code
abbrev y_D_run : MethodName := ⟨"DotSheet", "run", "(IIIZ)I"⟩
abbrev w_D_run : List Cond := .code y_D_run c_yD_run 5 (some .int) :: gT
abbrev c_yD_sheet : ByteArray := prog_1_method_2_code
abbrev y_D_sheet : MethodName := ⟨"DotSheet", "sheet", "(II)V"⟩
abbrev w_D_sheet : List Cond := .code y_D_sheet c_yD_sheet 3 none :: gT
abbrev c_yD_square : ByteArray := prog_1_method_13_code
abbrev y_D_square : MethodName := ⟨"DotSheet", "square", "(IIIII)I"⟩
abbrev w_D_square : List Cond := .code y_D_square c_yD_square 9 (some .int) :: gT
abbrev c_yD_text : ByteArray := prog_1_method_11_code
abbrev y_D_text : MethodName := ⟨"DotSheet", "text", "(IIIII)I"⟩
abbrev w_D_text : List Cond := .code y_D_text c_yD_text 12 (some .int) :: gT
abbrev c_yD_told : ByteArray := prog_1_method_16_code
abbrev y_D_told : MethodName := ⟨"DotSheet", "told", "(I)I"⟩
abbrev w_D_told : List Cond := .code y_D_told c_yD_told 2 (some .int) :: gT
abbrev c_yD_turn : ByteArray := prog_1_method_15_code
abbrev y_D_turn : MethodName := ⟨"DotSheet", "turn", "(I)V"⟩
abbrev w_D_turn : List Cond := .code y_D_turn c_yD_turn 3 none :: gT
abbrev c_yD_way : ByteArray := prog_1_method_3_code
abbrev y_D_way : MethodName := ⟨"DotSheet", "way", "(I)I"⟩
abbrev w_D_way : List Cond := .code y_D_way c_yD_way 3 (some .int) :: gT
abbrev c_yD_wipe : ByteArray := prog_1_method_5_code
abbrev y_D_wipe : MethodName := ⟨"DotSheet", "wipe", "()I"⟩
abbrev w_D_wipe : List Cond := .code y_D_wipe c_yD_wipe 2 (some .int) :: gT
abbrev c_yD_write : ByteArray := prog_1_method_4_code
abbrev y_D_write : MethodName := ⟨"DotSheet", "write", "(IJ)I"⟩
abbrev w_D_write : List Cond := .code y_D_write c_yD_write 4 (some .int) :: gT
abbrev c_yDr_init : ByteArray := prog_2_method_1_code
abbrev y_Dr_init : MethodName := ⟨"DotSheet$Draft", "<init>", "()V"⟩
abbrev w_Dr_init : List Cond := .code y_Dr_init c_yDr_init 1 none :: gT
abbrev c_yDr_append : ByteArray := prog_2_method_2_code
abbrev y_Dr_append : MethodName := ⟨"DotSheet$Draft", "append", "(IJ)Z"⟩
abbrev w_Dr_append : List Cond := .code y_Dr_append c_yDr_append 5 (some .boolean) :: gT
abbrev c_yDr_byteAt : ByteArray := prog_2_method_3_code
abbrev y_Dr_byteAt : MethodName := ⟨"DotSheet$Draft", "byteAt", "(I)I"⟩
abbrev w_Dr_byteAt : List Cond := .code y_Dr_byteAt c_yDr_byteAt 2 (some .int) :: gT
abbrev c_yDr_hasBit : ByteArray := prog_2_method_4_code
abbrev y_Dr_hasBit : MethodName := ⟨"DotSheet$Draft", "hasBit", "(I)Z"⟩
abbrev w_Dr_hasBit : List Cond := .code y_Dr_hasBit c_yDr_hasBit 2 (some .boolean) :: gT
abbrev c_yFo_init : ByteArray := prog_3_method_1_code
abbrev y_Fo_init : MethodName := ⟨"DotSheet$Font", "<init>", "()V"⟩
abbrev w_Fo_init : List Cond := .code y_Fo_init c_yFo_init 1 none :: gT
abbrev c_yFo_isDark : ByteArray := prog_3_method_4_code
abbrev y_Fo_isDark : MethodName := ⟨"DotSheet$Font", "isDark", "(III)Z"⟩
abbrev w_Fo_isDark : List Cond := .code y_Fo_isDark c_yFo_isDark 4 (some .boolean) :: gT
abbrev c_yFo_renew : ByteArray := prog_3_method_2_code
abbrev y_Fo_renew : MethodName := ⟨"DotSheet$Font", "renew", "(III)V"⟩
abbrev w_Fo_renew : List Cond := .code y_Fo_renew c_yFo_renew 4 none :: gT
abbrev c_yFo_setRow : ByteArray := prog_3_method_3_code
abbrev y_Fo_setRow : MethodName := ⟨"DotSheet$Font", "setRow", "(III)V"⟩
abbrev w_Fo_setRow : List Cond := .code y_Fo_setRow c_yFo_setRow 4 none :: gT
abbrev c_yPa_init : ByteArray := prog_4_method_1_code
abbrev y_Pa_init : MethodName := ⟨"DotSheet$Paper", "<init>", "()V"⟩
abbrev w_Pa_init : List Cond := .code y_Pa_init c_yPa_init 1 none :: gT
abbrev c_yPa_allOfColumn : ByteArray := prog_4_method_19_code
abbrev y_Pa_allOfColumn : MethodName := ⟨"DotSheet$Paper", "allOfColumn", "(I)J"⟩
abbrev w_Pa_allOfColumn : List Cond := .code y_Pa_allOfColumn c_yPa_allOfColumn 5 (some .long) :: gT
abbrev c_yPa_change : ByteArray := prog_4_method_17_code
abbrev y_Pa_change : MethodName := ⟨"DotSheet$Paper", "change", "(IJ)V"⟩
abbrev w_Pa_change : List Cond := .code y_Pa_change c_yPa_change 4 none :: gT
abbrev c_yPa_darkIn : ByteArray := prog_4_method_8_code
abbrev y_Pa_darkIn : MethodName := ⟨"DotSheet$Paper", "darkIn", "(IIII)I"⟩
abbrev w_Pa_darkIn : List Cond := .code y_Pa_darkIn c_yPa_darkIn 14 (some .int) :: gT
abbrev c_yPa_drawBox : ByteArray := prog_4_method_6_code
abbrev y_Pa_drawBox : MethodName := ⟨"DotSheet$Paper", "drawBox", "(IIII)I"⟩
abbrev w_Pa_drawBox : List Cond := .code y_Pa_drawBox c_yPa_drawBox 13 (some .int) :: gT
abbrev c_yPa_drawRing : ByteArray := prog_4_method_7_code
abbrev y_Pa_drawRing : MethodName := ⟨"DotSheet$Paper", "drawRing", "(IIIII)I"⟩
abbrev w_Pa_drawRing : List Cond := .code y_Pa_drawRing c_yPa_drawRing 6 (some .int) :: gT
abbrev c_yPa_greatestX : ByteArray := prog_4_method_10_code
abbrev y_Pa_greatestX : MethodName := ⟨"DotSheet$Paper", "greatestX", "()I"⟩
abbrev w_Pa_greatestX : List Cond := .code y_Pa_greatestX c_yPa_greatestX 4 (some .int) :: gT
abbrev c_yPa_greatestY : ByteArray := prog_4_method_12_code
abbrev y_Pa_greatestY : MethodName := ⟨"DotSheet$Paper", "greatestY", "()I"⟩
abbrev w_Pa_greatestY : List Cond := .code y_Pa_greatestY c_yPa_greatestY 2 (some .int) :: gT
abbrev c_yPa_has : ByteArray := prog_4_method_3_code
abbrev y_Pa_has : MethodName := ⟨"DotSheet$Paper", "has", "(II)Z"⟩
abbrev w_Pa_has : List Cond := .code y_Pa_has c_yPa_has 3 (some .boolean) :: gT
abbrev c_yPa_hasDarkInRow : ByteArray := prog_4_method_20_code
abbrev y_Pa_hasDarkInRow : MethodName := ⟨"DotSheet$Paper", "hasDarkInRow", "(I)Z"⟩
abbrev w_Pa_hasDarkInRow : List Cond := .code y_Pa_hasDarkInRow c_yPa_hasDarkInRow 3 (some .boolean) :: gT
abbrev c_yPa_isDark : ByteArray := prog_4_method_4_code
abbrev y_Pa_isDark : MethodName := ⟨"DotSheet$Paper", "isDark", "(II)Z"⟩
abbrev w_Pa_isDark : List Cond := .code y_Pa_isDark c_yPa_isDark 3 (some .boolean) :: gT
abbrev c_yPa_leastX : ByteArray := prog_4_method_9_code
abbrev y_Pa_leastX : MethodName := ⟨"DotSheet$Paper", "leastX", "()I"⟩
abbrev w_Pa_leastX : List Cond := .code y_Pa_leastX c_yPa_leastX 4 (some .int) :: gT
abbrev c_yPa_leastY : ByteArray := prog_4_method_11_code
abbrev y_Pa_leastY : MethodName := ⟨"DotSheet$Paper", "leastY", "()I"⟩
abbrev w_Pa_leastY : List Cond := .code y_Pa_leastY c_yPa_leastY 2 (some .int) :: gT
abbrev c_yPa_maskOf : ByteArray := prog_4_method_18_code
abbrev y_Pa_maskOf : MethodName := ⟨"DotSheet$Paper", "maskOf", "(III)J"⟩
abbrev w_Pa_maskOf : List Cond := .code y_Pa_maskOf c_yPa_maskOf 5 (some .long) :: gT
abbrev c_yPa_putBlock : ByteArray := prog_4_method_22_code
abbrev y_Pa_putBlock : MethodName := ⟨"DotSheet$Paper", "putBlock", "(II)V"⟩
abbrev w_Pa_putBlock : List Cond := .code y_Pa_putBlock c_yPa_putBlock 4 none :: gT
abbrev c_yPa_renew : ByteArray := prog_4_method_2_code
abbrev y_Pa_renew : MethodName := ⟨"DotSheet$Paper", "renew", "(II)V"⟩
abbrev w_Pa_renew : List Cond := .code y_Pa_renew c_yPa_renew 3 none :: gT
abbrev c_yPa_runDown : ByteArray := prog_4_method_14_code
abbrev y_Pa_runDown : MethodName := ⟨"DotSheet$Paper", "runDown", "(III)I"⟩
abbrev w_Pa_runDown : List Cond := .code y_Pa_runDown c_yPa_runDown 4 (some .int) :: gT
abbrev c_yPa_runLength : ByteArray := prog_4_method_16_code
abbrev y_Pa_runLength : MethodName := ⟨"DotSheet$Paper", "runLength", "(IIIIII)I"⟩
abbrev w_Pa_runLength : List Cond := .code y_Pa_runLength c_yPa_runLength 11 (some .int) :: gT
abbrev c_yPa_runRight : ByteArray := prog_4_method_13_code
abbrev y_Pa_runRight : MethodName := ⟨"DotSheet$Paper", "runRight", "(III)I"⟩
abbrev w_Pa_runRight : List Cond := .code y_Pa_runRight c_yPa_runRight 4 (some .int) :: gT
abbrev c_yPa_takeBlock : ByteArray := prog_4_method_21_code
abbrev y_Pa_takeBlock : MethodName := ⟨"DotSheet$Paper", "takeBlock", "(II)V"⟩
abbrev w_Pa_takeBlock : List Cond := .code y_Pa_takeBlock c_yPa_takeBlock 5 none :: gT
abbrev c_yPa_touches : ByteArray := prog_4_method_5_code
abbrev y_Pa_touches : MethodName := ⟨"DotSheet$Paper", "touches", "(IIII)Z"⟩
abbrev w_Pa_touches : List Cond := .code y_Pa_touches c_yPa_touches 5 (some .boolean) :: gT
abbrev c_yPa_transposeBlock : ByteArray := prog_4_method_23_code
abbrev y_Pa_transposeBlock : MethodName := ⟨"DotSheet$Paper", "transposeBlock", "()V"⟩
abbrev w_Pa_transposeBlock : List Cond := .code y_Pa_transposeBlock c_yPa_transposeBlock 7 none :: gT
abbrev c_yPa_turnRight : ByteArray := prog_4_method_15_code
abbrev y_Pa_turnRight : MethodName := ⟨"DotSheet$Paper", "turnRight", "()V"⟩
abbrev w_Pa_turnRight : List Cond := .code y_Pa_turnRight c_yPa_turnRight 3 none :: gT
abbrev c_yRe_ellipseReach : ByteArray := prog_5_method_3_code
abbrev y_Re_ellipseReach : MethodName := ⟨"DotSheet$Reckoning", "ellipseReach", "(III)I"⟩
abbrev w_Re_ellipseReach : List Cond := .code y_Re_ellipseReach c_yRe_ellipseReach 5 (some .int) :: gT
abbrev c_yRe_firstStep : ByteArray := prog_5_method_4_code
abbrev y_Re_firstStep : MethodName := ⟨"DotSheet$Reckoning", "firstStep", "(II)I"⟩
abbrev w_Re_firstStep : List Cond := .code y_Re_firstStep c_yRe_firstStep 2 (some .int) :: gT
abbrev c_yRe_greatestFactor : ByteArray := prog_5_method_7_code
abbrev y_Re_greatestFactor : MethodName := ⟨"DotSheet$Reckoning", "greatestFactor", "(JJJ)I"⟩
abbrev w_Re_greatestFactor : List Cond := .code y_Re_greatestFactor c_yRe_greatestFactor 6 (some .int) :: gT
abbrev c_yRe_lastStep : ByteArray := prog_5_method_5_code
abbrev y_Re_lastStep : MethodName := ⟨"DotSheet$Reckoning", "lastStep", "(II)I"⟩
abbrev w_Re_lastStep : List Cond := .code y_Re_lastStep c_yRe_lastStep 2 (some .int) :: gT
abbrev c_yRe_leastFactor : ByteArray := prog_5_method_6_code
abbrev y_Re_leastFactor : MethodName := ⟨"DotSheet$Reckoning", "leastFactor", "(JJJ)I"⟩
abbrev w_Re_leastFactor : List Cond := .code y_Re_leastFactor c_yRe_leastFactor 6 (some .int) :: gT
abbrev c_yRe_nearer : ByteArray := prog_5_method_8_code
abbrev y_Re_nearer : MethodName := ⟨"DotSheet$Reckoning", "nearer", "(J)I"⟩
abbrev w_Re_nearer : List Cond := .code y_Re_nearer c_yRe_nearer 2 (some .int) :: gT
abbrev c_yRe_root : ByteArray := prog_5_method_2_code
abbrev y_Re_root : MethodName := ⟨"DotSheet$Reckoning", "root", "(J)J"⟩
abbrev w_Re_root : List Cond := .code y_Re_root c_yRe_root 8 (some .long) :: gT
abbrev c_ySt_init : ByteArray := prog_6_method_1_code
abbrev y_St_init : MethodName := ⟨"DotSheet$Steps", "<init>", "(LDotSheet$Paper;)V"⟩
abbrev w_St_init : List Cond := .code y_St_init c_ySt_init 2 none :: gT
abbrev c_ySt_bound : ByteArray := prog_6_method_6_code
abbrev y_St_bound : MethodName := ⟨"DotSheet$Steps", "bound", "(IIII)V"⟩
abbrev w_St_bound : List Cond := .code y_St_bound c_ySt_bound 5 none :: gT
abbrev c_ySt_drawBlock : ByteArray := prog_6_method_3_code
abbrev y_St_drawBlock : MethodName := ⟨"DotSheet$Steps", "drawBlock", "(IIII)I"⟩
abbrev w_St_drawBlock : List Cond := .code y_St_drawBlock c_ySt_drawBlock 5 (some .int) :: gT
abbrev c_ySt_place : ByteArray := prog_6_method_5_code
abbrev y_St_place : MethodName := ⟨"DotSheet$Steps", "place", "(IIII)V"⟩
abbrev w_St_place : List Cond := .code y_St_place c_ySt_place 5 none :: gT
abbrev c_ySt_startAt : ByteArray := prog_6_method_2_code
abbrev y_St_startAt : MethodName := ⟨"DotSheet$Steps", "startAt", "(III)V"⟩
abbrev w_St_startAt : List Cond := .code y_St_startAt c_ySt_startAt 4 none :: gT
abbrev c_ySt_touchPaper : ByteArray := prog_6_method_4_code
abbrev y_St_touchPaper : MethodName := ⟨"DotSheet$Steps", "touchPaper", "(IIII)Z"⟩
abbrev w_St_touchPaper : List Cond := .code y_St_touchPaper c_ySt_touchPaper 5 (some .boolean) :: gT
abbrev c_ySk_init : ByteArray := prog_7_method_1_code
abbrev y_Sk_init : MethodName := ⟨"DotSheet$Stroke", "<init>", "(IIIII)V"⟩
abbrev w_Sk_init : List Cond := .code y_Sk_init c_ySk_init 6 none :: gT
abbrev c_ySk_cross : ByteArray := prog_7_method_2_code
abbrev y_Sk_cross : MethodName := ⟨"DotSheet$Stroke", "cross", "(I)V"⟩
abbrev w_Sk_cross : List Cond := .code y_Sk_cross c_ySk_cross 2 none :: gT
abbrev c_ySk_widen : ByteArray := prog_7_method_5_code
abbrev y_Sk_widen : MethodName := ⟨"DotSheet$Stroke", "widen", "(II)V"⟩
abbrev w_Sk_widen : List Cond := .code y_Sk_widen c_ySk_widen 3 none :: gT
abbrev c_ySk_widenByEnd : ByteArray := prog_7_method_3_code
abbrev y_Sk_widenByEnd : MethodName := ⟨"DotSheet$Stroke", "widenByEnd", "(II)V"⟩
abbrev w_Sk_widenByEnd : List Cond := .code y_Sk_widenByEnd c_ySk_widenByEnd 5 none :: gT
abbrev c_ySk_widenBySide : ByteArray := prog_7_method_4_code
abbrev y_Sk_widenBySide : MethodName := ⟨"DotSheet$Stroke", "widenBySide", "(I)V"⟩
abbrev w_Sk_widenBySide : List Cond := .code y_Sk_widenBySide c_ySk_widenBySide 8 none :: gT
abbrev c_yLa_bars : ByteArray := method_12_code
abbrev y_La_bars : MethodName := ⟨"DotSheetLaw", "bars", "(LDotSheet;IIIII[J)I"⟩
abbrev c_yLa_cell : ByteArray := method_10_code
abbrev y_La_cell : MethodName := ⟨"DotSheetLaw", "cell", "(LDotSheet;IIII)I"⟩
abbrev c_yLa_count : ByteArray := method_17_code
abbrev y_La_count : MethodName := ⟨"DotSheetLaw", "count", "(LDotSheet;IIII[J)I"⟩
abbrev c_yLa_dots : ByteArray := method_18_code
abbrev y_La_dots : MethodName := ⟨"DotSheetLaw", "dots", "(LDotSheet;III[J)I"⟩
abbrev c_yLa_ellipse : ByteArray := method_8_code
abbrev y_La_ellipse : MethodName := ⟨"DotSheetLaw", "ellipse", "(LDotSheet;IIIII[J)I"⟩
abbrev c_yLa_font : ByteArray := method_9_code
abbrev y_La_font : MethodName := ⟨"DotSheetLaw", "font", "(LDotSheet;IIII)I"⟩
abbrev c_yLa_frame : ByteArray := method_6_code
abbrev y_La_frame : MethodName := ⟨"DotSheetLaw", "frame", "(LDotSheet;IIIII[J)I"⟩
abbrev c_yLa_line : ByteArray := method_7_code
abbrev y_La_line : MethodName := ⟨"DotSheetLaw", "line", "(LDotSheet;IIIII[J)I"⟩
abbrev c_yLa_picture : ByteArray := method_14_code
abbrev y_La_picture : MethodName := ⟨"DotSheetLaw", "picture", "(LDotSheet;III[J)I"⟩
abbrev c_yLa_run : ByteArray := method_19_code
abbrev y_La_run : MethodName := ⟨"DotSheetLaw", "run", "(LDotSheet;IIIZ[J)I"⟩
abbrev c_yLa_sheet : ByteArray := method_3_code
abbrev y_La_sheet : MethodName := ⟨"DotSheetLaw", "sheet", "(LDotSheet;II)I"⟩
abbrev c_yLa_square : ByteArray := method_13_code
abbrev y_La_square : MethodName := ⟨"DotSheetLaw", "square", "(LDotSheet;IIIII[J)I"⟩
abbrev c_yLa_text : ByteArray := method_11_code
abbrev y_La_text : MethodName := ⟨"DotSheetLaw", "text", "(LDotSheet;IIIII[J)I"⟩
abbrev c_yLa_told : ByteArray := method_16_code
abbrev y_La_told : MethodName := ⟨"DotSheetLaw", "told", "(LDotSheet;I[J)I"⟩
abbrev c_yLa_turn : ByteArray := method_15_code
abbrev y_La_turn : MethodName := ⟨"DotSheetLaw", "turn", "(LDotSheet;I)I"⟩
abbrev c_yLa_way : ByteArray := method_4_code
abbrev y_La_way : MethodName := ⟨"DotSheetLaw", "way", "(LDotSheet;I[J)I"⟩
abbrev c_yLa_write : ByteArray := method_5_code
abbrev y_La_write : MethodName := ⟨"DotSheetLaw", "write", "(LDotSheet;IJ[J)I"⟩
abbrev c_yMo_init : ByteArray := prog_9_method_1_code
abbrev y_Mo_init : MethodName := ⟨"DotSheetModel", "<init>", "()V"⟩
abbrev w_Mo_init : List Cond := .code y_Mo_init c_yMo_init 1 none :: gT
abbrev c_yMo_across : ByteArray := prog_9_method_16_code
abbrev y_Mo_across : MethodName := ⟨"DotSheetModel", "across", "(II)I"⟩
abbrev w_Mo_across : List Cond := .code y_Mo_across c_yMo_across 3 (some .int) :: gT
abbrev c_yMo_along : ByteArray := prog_9_method_15_code
abbrev y_Mo_along : MethodName := ⟨"DotSheetModel", "along", "(II)I"⟩
abbrev w_Mo_along : List Cond := .code y_Mo_along c_yMo_along 3 (some .int) :: gT
abbrev c_yMo_at : ByteArray := prog_9_method_22_code
abbrev y_Mo_at : MethodName := ⟨"DotSheetModel", "at", "(IIIII)V"⟩
abbrev w_Mo_at : List Cond := .code y_Mo_at c_yMo_at 6 none :: gT
abbrev c_yMo_bars : ByteArray := prog_9_method_32_code
abbrev y_Mo_bars : MethodName := ⟨"DotSheetModel", "bars", "(IIIII)I"⟩
abbrev w_Mo_bars : List Cond := .code y_Mo_bars c_yMo_bars 9 (some .int) :: gT
abbrev c_yMo_belongs : ByteArray := prog_9_method_20_code
abbrev y_Mo_belongs : MethodName := ⟨"DotSheetModel", "belongs", "(III)Z"⟩
abbrev w_Mo_belongs : List Cond := .code y_Mo_belongs c_yMo_belongs 6 (some .boolean) :: gT
abbrev c_yMo_bit : ByteArray := prog_9_method_10_code
abbrev y_Mo_bit : MethodName := ⟨"DotSheetModel", "bit", "(I)Z"⟩
abbrev w_Mo_bit : List Cond := .code y_Mo_bit c_yMo_bit 2 (some .boolean) :: gT
abbrev c_yMo_cell : ByteArray := prog_9_method_30_code
abbrev y_Mo_cell : MethodName := ⟨"DotSheetModel", "cell", "(IIII)V"⟩
abbrev w_Mo_cell : List Cond := .code y_Mo_cell c_yMo_cell 5 none :: gT
abbrev c_yMo_count : ByteArray := prog_9_method_38_code
abbrev y_Mo_count : MethodName := ⟨"DotSheetModel", "count", "(IIII)I"⟩
abbrev w_Mo_count : List Cond := .code y_Mo_count c_yMo_count 8 (some .int) :: gT
abbrev c_yMo_dots : ByteArray := prog_9_method_39_code
abbrev y_Mo_dots : MethodName := ⟨"DotSheetModel", "dots", "(III)J"⟩
abbrev w_Mo_dots : List Cond := .code y_Mo_dots c_yMo_dots 7 (some .long) :: gT
abbrev c_yMo_draw : ByteArray := prog_9_method_21_code
abbrev y_Mo_draw : MethodName := ⟨"DotSheetModel", "draw", "(I)I"⟩
abbrev w_Mo_draw : List Cond := .code y_Mo_draw c_yMo_draw 5 (some .int) :: gT
abbrev c_yMo_ellipse : ByteArray := prog_9_method_28_code
abbrev y_Mo_ellipse : MethodName := ⟨"DotSheetModel", "ellipse", "(IIIII)I"⟩
abbrev w_Mo_ellipse : List Cond := .code y_Mo_ellipse c_yMo_ellipse 6 (some .int) :: gT
abbrev c_yMo_font : ByteArray := prog_9_method_29_code
abbrev y_Mo_font : MethodName := ⟨"DotSheetModel", "font", "(IIII)V"⟩
abbrev w_Mo_font : List Cond := .code y_Mo_font c_yMo_font 6 none :: gT
abbrev c_yMo_frame : ByteArray := prog_9_method_26_code
abbrev y_Mo_frame : MethodName := ⟨"DotSheetModel", "frame", "(IIIII)I"⟩
abbrev w_Mo_frame : List Cond := .code y_Mo_frame c_yMo_frame 6 (some .int) :: gT
abbrev c_yMo_inEllipse : ByteArray := prog_9_method_14_code
abbrev y_Mo_inEllipse : MethodName := ⟨"DotSheetModel", "inEllipse", "(II)Z"⟩
abbrev w_Mo_inEllipse : List Cond := .code y_Mo_inEllipse c_yMo_inEllipse 11 (some .boolean) :: gT
abbrev c_yMo_inFrame : ByteArray := prog_9_method_11_code
abbrev y_Mo_inFrame : MethodName := ⟨"DotSheetModel", "inFrame", "(II)Z"⟩
abbrev w_Mo_inFrame : List Cond := .code y_Mo_inFrame c_yMo_inFrame 6 (some .boolean) :: gT
abbrev c_yMo_inLine : ByteArray := prog_9_method_12_code
abbrev y_Mo_inLine : MethodName := ⟨"DotSheetModel", "inLine", "(II)Z"⟩
abbrev w_Mo_inLine : List Cond := .code y_Mo_inLine c_yMo_inLine 19 (some .boolean) :: gT
abbrev c_yMo_inOval : ByteArray := prog_9_method_13_code
abbrev y_Mo_inOval : MethodName := ⟨"DotSheetModel", "inOval", "(JJJJ)Z"⟩
abbrev w_Mo_inOval : List Cond := .code y_Mo_inOval c_yMo_inOval 8 (some .boolean) :: gT
abbrev c_yMo_inPicture : ByteArray := prog_9_method_19_code
abbrev y_Mo_inPicture : MethodName := ⟨"DotSheetModel", "inPicture", "(II)Z"⟩
abbrev w_Mo_inPicture : List Cond := .code y_Mo_inPicture c_yMo_inPicture 6 (some .boolean) :: gT
abbrev c_yMo_inSquare : ByteArray := prog_9_method_18_code
abbrev y_Mo_inSquare : MethodName := ⟨"DotSheetModel", "inSquare", "(II)Z"⟩
abbrev w_Mo_inSquare : List Cond := .code y_Mo_inSquare c_yMo_inSquare 5 (some .boolean) :: gT
abbrev c_yMo_inText : ByteArray := prog_9_method_17_code
abbrev y_Mo_inText : MethodName := ⟨"DotSheetModel", "inText", "(II)Z"⟩
abbrev w_Mo_inText : List Cond := .code y_Mo_inText c_yMo_inText 7 (some .boolean) :: gT
abbrev c_yMo_isDark : ByteArray := prog_9_method_4_code
abbrev y_Mo_isDark : MethodName := ⟨"DotSheetModel", "isDark", "(II)Z"⟩
abbrev w_Mo_isDark : List Cond := .code y_Mo_isDark c_yMo_isDark 3 (some .boolean) :: gT
abbrev c_yMo_isNot : ByteArray := prog_9_method_24_code
abbrev y_Mo_isNot : MethodName := ⟨"DotSheetModel", "isNot", "(III)Z"⟩
abbrev w_Mo_isNot : List Cond := .code y_Mo_isNot c_yMo_isNot 3 (some .boolean) :: gT
abbrev c_yMo_isOn : ByteArray := prog_9_method_3_code
abbrev y_Mo_isOn : MethodName := ⟨"DotSheetModel", "isOn", "(II)Z"⟩
abbrev w_Mo_isOn : List Cond := .code y_Mo_isOn c_yMo_isOn 3 (some .boolean) :: gT
abbrev c_yMo_line : ByteArray := prog_9_method_27_code
abbrev y_Mo_line : MethodName := ⟨"DotSheetModel", "line", "(IIIII)I"⟩
abbrev w_Mo_line : List Cond := .code y_Mo_line c_yMo_line 6 (some .int) :: gT
abbrev c_yMo_noPlace : ByteArray := prog_9_method_23_code
abbrev y_Mo_noPlace : MethodName := ⟨"DotSheetModel", "noPlace", "(II)Z"⟩
abbrev w_Mo_noPlace : List Cond := .code y_Mo_noPlace c_yMo_noPlace 2 (some .boolean) :: gT
abbrev c_yMo_noRing : ByteArray := prog_9_method_25_code
abbrev y_Mo_noRing : MethodName := ⟨"DotSheetModel", "noRing", "(III)Z"⟩
abbrev w_Mo_noRing : List Cond := .code y_Mo_noRing c_yMo_noRing 3 (some .boolean) :: gT
abbrev c_yMo_other : ByteArray := prog_9_method_5_code
abbrev y_Mo_other : MethodName := ⟨"DotSheetModel", "other", "(II)V"⟩
abbrev w_Mo_other : List Cond := .code y_Mo_other c_yMo_other 3 none :: gT
abbrev c_yMo_picture : ByteArray := prog_9_method_34_code
abbrev y_Mo_picture : MethodName := ⟨"DotSheetModel", "picture", "(III)I"⟩
abbrev w_Mo_picture : List Cond := .code y_Mo_picture c_yMo_picture 4 (some .int) :: gT
abbrev c_yMo_run : ByteArray := prog_9_method_40_code
abbrev y_Mo_run : MethodName := ⟨"DotSheetModel", "run", "(IIIZ)I"⟩
abbrev w_Mo_run : List Cond := .code y_Mo_run c_yMo_run 11 (some .int) :: gT
abbrev c_yMo_sheet : ByteArray := prog_9_method_6_code
abbrev y_Mo_sheet : MethodName := ⟨"DotSheetModel", "sheet", "(II)V"⟩
abbrev w_Mo_sheet : List Cond := .code y_Mo_sheet c_yMo_sheet 4 none :: gT
abbrev c_yMo_square : ByteArray := prog_9_method_33_code
abbrev y_Mo_square : MethodName := ⟨"DotSheetModel", "square", "(IIIII)I"⟩
abbrev w_Mo_square : List Cond := .code y_Mo_square c_yMo_square 6 (some .int) :: gT
abbrev c_yMo_text : ByteArray := prog_9_method_31_code
abbrev y_Mo_text : MethodName := ⟨"DotSheetModel", "text", "(IIIII)I"⟩
abbrev w_Mo_text : List Cond := .code y_Mo_text c_yMo_text 6 (some .int) :: gT
abbrev c_yMo_thrown : ByteArray := prog_9_method_2_code
abbrev y_Mo_thrown : MethodName := ⟨"DotSheetModel", "thrown", "()I"⟩
abbrev w_Mo_thrown : List Cond := .code y_Mo_thrown c_yMo_thrown 1 (some .int) :: gT
abbrev c_yMo_told : ByteArray := prog_9_method_37_code
abbrev y_Mo_told : MethodName := ⟨"DotSheetModel", "told", "(I)I"⟩
abbrev w_Mo_told : List Cond := .code y_Mo_told c_yMo_told 7 (some .int) :: gT
abbrev c_yMo_turn : ByteArray := prog_9_method_36_code
abbrev y_Mo_turn : MethodName := ⟨"DotSheetModel", "turn", "(I)V"⟩
abbrev w_Mo_turn : List Cond := .code y_Mo_turn c_yMo_turn 3 none :: gT
abbrev c_yMo_turnOnce : ByteArray := prog_9_method_35_code
abbrev y_Mo_turnOnce : MethodName := ⟨"DotSheetModel", "turnOnce", "()V"⟩
abbrev w_Mo_turnOnce : List Cond := .code y_Mo_turnOnce c_yMo_turnOnce 5 none :: gT
abbrev c_yMo_way : ByteArray := prog_9_method_7_code
abbrev y_Mo_way : MethodName := ⟨"DotSheetModel", "way", "(I)I"⟩
abbrev w_Mo_way : List Cond := .code y_Mo_way c_yMo_way 3 (some .int) :: gT
abbrev c_yMo_wipe : ByteArray := prog_9_method_9_code
abbrev y_Mo_wipe : MethodName := ⟨"DotSheetModel", "wipe", "()I"⟩
abbrev w_Mo_wipe : List Cond := .code y_Mo_wipe c_yMo_wipe 2 (some .int) :: gT
abbrev c_yMo_write : ByteArray := prog_9_method_8_code
abbrev y_Mo_write : MethodName := ⟨"DotSheetModel", "write", "(IJ)I"⟩
abbrev w_Mo_write : List Cond := .code y_Mo_write c_yMo_write 5 (some .int) :: gT
abbrev c_yJI_numberOfLeadingZeros : ByteArray := prog_14_method_47_code
abbrev y_JI_numberOfLeadingZeros : MethodName := ⟨"java/lang/Integer", "numberOfLeadingZeros", "(I)I"⟩
abbrev w_JI_numberOfLeadingZeros : List Cond := .code y_JI_numberOfLeadingZeros c_yJI_numberOfLeadingZeros 2 (some .int) :: gT
abbrev c_yJI_numberOfTrailingZeros : ByteArray := prog_14_method_48_code
abbrev y_JI_numberOfTrailingZeros : MethodName := ⟨"java/lang/Integer", "numberOfTrailingZeros", "(I)I"⟩
abbrev w_JI_numberOfTrailingZeros : List Cond := .code y_JI_numberOfTrailingZeros c_yJI_numberOfTrailingZeros 2 (some .int) :: gT
abbrev c_yJL_bitCount : ByteArray := prog_15_method_50_code
abbrev y_JL_bitCount : MethodName := ⟨"java/lang/Long", "bitCount", "(J)I"⟩
abbrev w_JL_bitCount : List Cond := .code y_JL_bitCount c_yJL_bitCount 2 (some .int) :: gT
abbrev c_yJL_numberOfLeadingZeros : ByteArray := prog_15_method_48_code
abbrev y_JL_numberOfLeadingZeros : MethodName := ⟨"java/lang/Long", "numberOfLeadingZeros", "(J)I"⟩
abbrev w_JL_numberOfLeadingZeros : List Cond := .code y_JL_numberOfLeadingZeros c_yJL_numberOfLeadingZeros 3 (some .int) :: gT
abbrev c_yJL_numberOfTrailingZeros : ByteArray := prog_15_method_49_code
abbrev y_JL_numberOfTrailingZeros : MethodName := ⟨"java/lang/Long", "numberOfTrailingZeros", "(J)I"⟩
abbrev w_JL_numberOfTrailingZeros : List Cond := .code y_JL_numberOfTrailingZeros c_yJL_numberOfTrailingZeros 3 (some .int) :: gT
abbrev c_yJM_abs : ByteArray := prog_16_method_59_code
abbrev y_JM_abs : MethodName := ⟨"java/lang/Math", "abs", "(I)I"⟩
abbrev w_JM_abs : List Cond := .code y_JM_abs c_yJM_abs 1 (some .int) :: gT
abbrev c_yJM_floorDiv_0 : ByteArray := prog_16_method_47_code
abbrev y_JM_floorDiv_0 : MethodName := ⟨"java/lang/Math", "floorDiv", "(II)I"⟩
abbrev w_JM_floorDiv_0 : List Cond := .code y_JM_floorDiv_0 c_yJM_floorDiv_0 3 (some .int) :: gT
abbrev c_yJM_floorDiv_1 : ByteArray := prog_16_method_49_code
abbrev y_JM_floorDiv_1 : MethodName := ⟨"java/lang/Math", "floorDiv", "(JJ)J"⟩
abbrev w_JM_floorDiv_1 : List Cond := .code y_JM_floorDiv_1 c_yJM_floorDiv_1 6 (some .long) :: gT
abbrev c_yJM_max_0 : ByteArray := prog_16_method_65_code
abbrev y_JM_max_0 : MethodName := ⟨"java/lang/Math", "max", "(II)I"⟩
abbrev w_JM_max_0 : List Cond := .code y_JM_max_0 c_yJM_max_0 2 (some .int) :: gT
abbrev c_yJM_max_1 : ByteArray := prog_16_method_66_code
abbrev y_JM_max_1 : MethodName := ⟨"java/lang/Math", "max", "(JJ)J"⟩
abbrev w_JM_max_1 : List Cond := .code y_JM_max_1 c_yJM_max_1 4 (some .long) :: gT
abbrev c_yJM_min_0 : ByteArray := prog_16_method_69_code
abbrev y_JM_min_0 : MethodName := ⟨"java/lang/Math", "min", "(II)I"⟩
abbrev w_JM_min_0 : List Cond := .code y_JM_min_0 c_yJM_min_0 2 (some .int) :: gT
abbrev c_yJM_min_1 : ByteArray := prog_16_method_70_code
abbrev y_JM_min_1 : MethodName := ⟨"java/lang/Math", "min", "(JJ)J"⟩
abbrev w_JM_min_1 : List Cond := .code y_JM_min_1 c_yJM_min_1 4 (some .long) :: gT
abbrev c_yJA_fill_0 : ByteArray := prog_20_method_103_code
abbrev y_JA_fill_0 : MethodName := ⟨"java/util/Arrays", "fill", "([II)V"⟩
abbrev w_JA_fill_0 : List Cond := .code y_JA_fill_0 c_yJA_fill_0 4 none :: gT
abbrev c_yJA_fill_1 : ByteArray := prog_20_method_101_code
abbrev y_JA_fill_1 : MethodName := ⟨"java/util/Arrays", "fill", "([JJ)V"⟩
abbrev w_JA_fill_1 : List Cond := .code y_JA_fill_1 c_yJA_fill_1 5 none :: gT
