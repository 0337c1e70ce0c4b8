/-! the words of the class's throws -/
theorem zX_P {D : va_G} {cl : List vw_C} {ws : va_W} {H : Heap} {t : State} (hP : va_P D cl ws H) (hk : ∀ q : Nat, q < H.size → t.heap[q]? = H[q]?) : va_P D cl ws t.heap := by
  intro k q hq
  have h := hP k q hq
  exact h.kept (hk _ h.lt)
theorem va_S.trans {A : Nat → Prop} {s t : State} {H : Heap} {locs : List Loc} (h : va_S A s.heap H locs) (hz : H.size ≤ t.heap.size) (hk : ∀ q : Nat, q < H.size → t.heap[q]? = H[q]?) : va_F A s t :=
  ⟨Nat.le_trans h.1 hz, fun q h1 h2 => by rw [hk q (Nat.lt_of_lt_of_le h1 h.1)]; exact h.2.1 q h1 h2⟩
theorem xb_ot : ∀ w ∈ xBl, w.onTables = true := by decide +kernel
theorem xl_201 : ∀ w ∈ (vx_atS "DotSheet" 201 "java/lang/IllegalArgumentException" ["java/lang/RuntimeException", "java/lang/Exception"]).filter goodWord, w ∈ lw_tbl := by decide +kernel
theorem xg_201 : ∀ w ∈ (vx_atS "DotSheet" 201 "java/lang/IllegalArgumentException" ["java/lang/RuntimeException", "java/lang/Exception"]).filter goodWord, w ∈ gT := fun w h => gT_of (xl_201 w h) (List.mem_filter.mp h).2
theorem xb_201 : ∀ w ∈ (vx_atS "DotSheet" 201 "java/lang/IllegalArgumentException" ["java/lang/RuntimeException", "java/lang/Exception"]).filter (fun w => !goodWord w), w ∈ xBl := by decide +kernel
theorem xo_201 : ∀ w ∈ Cond.classLink "DotSheet" 197 "java/lang/IllegalArgumentException" :: Cond.initialized "java/lang/IllegalArgumentException" :: (vx_atS "DotSheet" 201 "java/lang/IllegalArgumentException" ["java/lang/RuntimeException", "java/lang/Exception"]), vx_ot w = true := by decide +kernel
theorem xl_128 : ∀ w ∈ (vx_atS "DotSheet" 128 "java/lang/IndexOutOfBoundsException" ["java/lang/RuntimeException", "java/lang/Exception"]).filter goodWord, w ∈ lw_tbl := by decide +kernel
theorem xg_128 : ∀ w ∈ (vx_atS "DotSheet" 128 "java/lang/IndexOutOfBoundsException" ["java/lang/RuntimeException", "java/lang/Exception"]).filter goodWord, w ∈ gT := fun w h => gT_of (xl_128 w h) (List.mem_filter.mp h).2
theorem xb_128 : ∀ w ∈ (vx_atS "DotSheet" 128 "java/lang/IndexOutOfBoundsException" ["java/lang/RuntimeException", "java/lang/Exception"]).filter (fun w => !goodWord w), w ∈ xBl := by decide +kernel
theorem xo_128 : ∀ w ∈ Cond.classLink "DotSheet" 124 "java/lang/IndexOutOfBoundsException" :: Cond.initialized "java/lang/IndexOutOfBoundsException" :: (vx_atS "DotSheet" 128 "java/lang/IndexOutOfBoundsException" ["java/lang/RuntimeException", "java/lang/Exception"]), vx_ot w = true := by decide +kernel
theorem xl_168 : ∀ w ∈ (vx_atS "DotSheet" 168 "java/lang/IllegalStateException" ["java/lang/RuntimeException", "java/lang/Exception"]).filter goodWord, w ∈ lw_tbl := by decide +kernel
theorem xg_168 : ∀ w ∈ (vx_atS "DotSheet" 168 "java/lang/IllegalStateException" ["java/lang/RuntimeException", "java/lang/Exception"]).filter goodWord, w ∈ gT := fun w h => gT_of (xl_168 w h) (List.mem_filter.mp h).2
theorem xb_168 : ∀ w ∈ (vx_atS "DotSheet" 168 "java/lang/IllegalStateException" ["java/lang/RuntimeException", "java/lang/Exception"]).filter (fun w => !goodWord w), w ∈ xBl := by decide +kernel
theorem xo_168 : ∀ w ∈ Cond.classLink "DotSheet" 164 "java/lang/IllegalStateException" :: Cond.initialized "java/lang/IllegalStateException" :: (vx_atS "DotSheet" 168 "java/lang/IllegalStateException" ["java/lang/RuntimeException", "java/lang/Exception"]), vx_ot w = true := by decide +kernel
theorem d_D_isWithin_0 : decode c_yD_isWithin 0 = .ok (.iload_n 0, 1) := by decide +kernel
theorem d_D_isWithin_1 : decode c_yD_isWithin 1 = .ok (.iload_n 1, 1) := by decide +kernel
theorem d_D_isWithin_2 : decode c_yD_isWithin 2 = .ok (.if_icmp .lt 12, 3) := by decide +kernel
theorem d_D_isWithin_5 : decode c_yD_isWithin 5 = .ok (.iload_n 0, 1) := by decide +kernel
theorem d_D_isWithin_6 : decode c_yD_isWithin 6 = .ok (.iload_n 2, 1) := by decide +kernel
theorem d_D_isWithin_7 : decode c_yD_isWithin 7 = .ok (.if_icmp .gt 7, 3) := by decide +kernel
theorem d_D_isWithin_10 : decode c_yD_isWithin 10 = .ok (.iconst 1, 1) := by decide +kernel
theorem d_D_isWithin_11 : decode c_yD_isWithin 11 = .ok (.goto 4, 3) := by decide +kernel
theorem d_D_isWithin_14 : decode c_yD_isWithin 14 = .ok (.iconst 0, 1) := by decide +kernel
theorem d_D_isWithin_15 : decode c_yD_isWithin 15 = .ok (.ireturn, 1) := by decide +kernel
set_option maxHeartbeats 4000000 in
set_option maxRecDepth 100000 in
theorem c_DotSheet_isWithin (l : Launch) (dC : Nat → ClassId) (dI : Nat → Nat → Nat) (v a b : Int) (v1 : -2147483648 ≤ v) (a1 : -2147483648 ≤ a) (b1 : -2147483648 ≤ b) (v2 : v ≤ 2147483647) (a2 : a ≤ 2147483647) (b2 : b ≤ 2147483647) : Met l y_D_isWithin w_D_isWithin ({ frames := 0, cells := 0, slots := 0, locals := 0 }) (va_Pc [.int (iZ v), .int (iZ a), .int (iZ b)] (zPr (dC, dI) vwCl [] [])) (vp_Si (fun r => r = bI (decide (a ≤ v ∧ v ≤ b)))) 0 0 (fun _ => False) := by
  refine Met.ofW (cc := c_yD_isWithin) (maxL := 3) (ret := (some .boolean)) (by decide) rfl ?_
  intro p e s m args below meth c s₁ B hml hv
  obtain ⟨rfl, hP, hK⟩ := hv
  have hx := B.exec
  have hb := B.bytes
  have hr := B.returns
  have hts0 := atoms_spec (ws := w_D_isWithin) B.pre
  have hts : ∀ w ∈ gT, w.before _ s = true := fun w h => hts0 w (List.mem_cons_of_mem _ h)
  have hown : s.vm.findClass R_D = some m.cls := findClass_of_methodNamed B.named
  have hlocks := B.notSynchronized
  have hl := lv_entry ([.int (iZ v), .int (iZ a), .int (iZ b)]) (n := 3) (Nat.le_of_ble_eq_true rfl)
  rw [lg_entry_eq]
  generalize (lg_sl ([.int (iZ v), .int (iZ a), .int (iZ b)]) ++ List.replicate (3 - (lg_sl ([.int (iZ v), .int (iZ a), .int (iZ b)])).length) Slot.unset).toArray = ls at hl ⊢
  have hl : lv_has ls 3 [(0, .int (iZ v)), (1, .int (iZ a)), (2, .int (iZ b))] := hl
  refine lv_iload_n hx hb d_D_isWithin_0 rfl (lv_at hl 0 rfl) ?_
  refine lv_iload_n hx hb d_D_isWithin_1 rfl (lv_at hl 1 rfl) ?_
  refine zi_lt (tgt := 14) hx hb d_D_isWithin_2 (by decide) (by omega) (by omega) (by omega) (by omega) (fun c_2 => ?_) (fun c_2 => ?_)
  · refine lv_iconst (v := iZ (0)) hx hb d_D_isWithin_14 rfl ?_
    exact W.zret (ty := .boolean) hx hb hr (by decide) (fun t ht hW => ⟨_, rfl, by rw [show decide (a ≤ v ∧ v ≤ b) = false from decide_eq_false (by omega)]; rfl, ht⟩) (fun q h => nomatch h) d_D_isWithin_15
  · refine lv_iload_n hx hb d_D_isWithin_5 rfl (lv_at hl 0 rfl) ?_
    refine lv_iload_n hx hb d_D_isWithin_6 rfl (lv_at hl 2 rfl) ?_
    refine zi_gt (tgt := 14) hx hb d_D_isWithin_7 (by decide) (by omega) (by omega) (by omega) (by omega) (fun c_7 => ?_) (fun c_7 => ?_)
    · refine lv_iconst (v := iZ (0)) hx hb d_D_isWithin_14 rfl ?_
      exact W.zret (ty := .boolean) hx hb hr (by decide) (fun t ht hW => ⟨_, rfl, by rw [show decide (a ≤ v ∧ v ≤ b) = false from decide_eq_false (by omega)]; rfl, ht⟩) (fun q h => nomatch h) d_D_isWithin_15
    · refine lv_iconst (v := iZ (1)) hx hb d_D_isWithin_10 rfl ?_
      refine lv_goto (tgt := 15) hx hb d_D_isWithin_11 (by decide) ?_
      exact W.zret (ty := .boolean) hx hb hr (by decide) (fun t ht hW => ⟨_, rfl, by rw [show decide (a ≤ v ∧ v ≤ b) = true from decide_eq_true (by omega)]; rfl, ht⟩) (fun q h => nomatch h) d_D_isWithin_15
theorem d_D_isPlace_0 : decode c_yD_isPlace 0 = .ok (.iload_n 0, 1) := by decide +kernel
theorem d_D_isPlace_1 : decode c_yD_isPlace 1 = .ok (.sipush (-4096), 3) := by decide +kernel
theorem d_D_isPlace_4 : decode c_yD_isPlace 4 = .ok (.sipush 4096, 3) := by decide +kernel
theorem d_D_isPlace_7 : decode c_yD_isPlace 7 = .ok (.invokestatic 39, 3) := by decide +kernel
theorem d_D_isPlace_10 : decode c_yD_isPlace 10 = .ok (.ireturn, 1) := by decide +kernel
set_option maxHeartbeats 4000000 in
set_option maxRecDepth 100000 in
theorem c_DotSheet_isPlace (l : Launch) (dC : Nat → ClassId) (dI : Nat → Nat → Nat) (v : Int) (v1 : -2147483648 ≤ v) (v2 : v ≤ 2147483647) : Met l y_D_isPlace w_D_isPlace ({ frames := 1, cells := 0, slots := 0, locals := 22 }) (va_Pc [.int (iZ v)] (zPr (dC, dI) vwCl [] [])) (vp_Si (fun r => r = bI (decide (-4096 ≤ v ∧ v ≤ 4096)))) 0 0 (fun _ => False) := by
  refine Met.ofW (cc := c_yD_isPlace) (maxL := 1) (ret := (some .boolean)) (by decide) rfl ?_
  intro p e s m args below meth c s₁ B hml hv
  obtain ⟨rfl, hP, hK⟩ := hv
  have hx := B.exec
  have hb := B.bytes
  have hr := B.returns
  have hts0 := atoms_spec (ws := w_D_isPlace) B.pre
  have hts : ∀ w ∈ gT, w.before _ s = true := fun w h => hts0 w (List.mem_cons_of_mem _ h)
  have hown : s.vm.findClass R_D = some m.cls := findClass_of_methodNamed B.named
  have hlocks := B.notSynchronized
  have hl := lv_entry ([.int (iZ v)]) (n := 1) (Nat.le_of_ble_eq_true rfl)
  rw [lg_entry_eq]
  generalize (lg_sl ([.int (iZ v)]) ++ List.replicate (1 - (lg_sl ([.int (iZ v)])).length) Slot.unset).toArray = ls at hl ⊢
  have hl : lv_has ls 1 [(0, .int (iZ v))] := hl
  refine lv_iload_n hx hb d_D_isPlace_0 rfl (lv_at hl 0 rfl) ?_
  refine lv_sipush (v := iZ (-4096)) hx hb d_D_isPlace_1 (by decide) ?_
  refine lv_sipush (v := iZ (4096)) hx hb d_D_isPlace_4 (by decide) ?_
  refine vp_callSi (va_runS (As := [.int (iZ v), .int (iZ (-4096)), .int (iZ 4096)]) (rest := []) ⟨hx, hb, hml, hown, hts⟩ (c_DotSheet_isWithin l dC dI v (-4096) 4096 (by first | omega | assumption) (by first | omega | assumption) (by first | omega | assumption) (by first | omega | assumption) (by first | omega | assumption) (by first | omega | assumption)) (va_cwS 3 hts (gS t_151 t_152 t_1 t_153) rfl rfl rfl (by decide +kernel) ⟨Nat.le_of_ble_eq_true rfl, Nat.le_of_ble_eq_true rfl⟩) ⟨zPr_blind, zPr_pre hP hK [] [] rfl rfl⟩ rfl rfl hl.1 rfl (lv_room (Nat.le_of_ble_eq_true rfl)) d_D_isPlace_7 ⟨Nat.le_of_ble_eq_true rfl, Nat.le_of_ble_eq_true rfl⟩).run (fun r_7 q_7 => ?_)
  obtain rfl := q_7
  exact W.zret (ty := .boolean) hx hb hr (bI_nar _) (fun t ht hW => ⟨_, rfl, rfl, ht⟩) (fun q h => nomatch h) d_D_isPlace_10
theorem d_D_isSize_0 : decode c_yD_isSize 0 = .ok (.iload_n 0, 1) := by decide +kernel
theorem d_D_isSize_1 : decode c_yD_isSize 1 = .ok (.iconst 1, 1) := by decide +kernel
theorem d_D_isSize_2 : decode c_yD_isSize 2 = .ok (.sipush 2048, 3) := by decide +kernel
theorem d_D_isSize_5 : decode c_yD_isSize 5 = .ok (.invokestatic 39, 3) := by decide +kernel
theorem d_D_isSize_8 : decode c_yD_isSize 8 = .ok (.ireturn, 1) := by decide +kernel
set_option maxHeartbeats 4000000 in
set_option maxRecDepth 100000 in
theorem c_DotSheet_isSize (l : Launch) (dC : Nat → ClassId) (dI : Nat → Nat → Nat) (v : Int) (v1 : -2147483648 ≤ v) (v2 : v ≤ 2147483647) : Met l y_D_isSize w_D_isSize ({ frames := 1, cells := 0, slots := 0, locals := 22 }) (va_Pc [.int (iZ v)] (zPr (dC, dI) vwCl [] [])) (vp_Si (fun r => r = bI (decide (1 ≤ v ∧ v ≤ 2048)))) 0 0 (fun _ => False) := by
  refine Met.ofW (cc := c_yD_isSize) (maxL := 1) (ret := (some .boolean)) (by decide) rfl ?_
  intro p e s m args below meth c s₁ B hml hv
  obtain ⟨rfl, hP, hK⟩ := hv
  have hx := B.exec
  have hb := B.bytes
  have hr := B.returns
  have hts0 := atoms_spec (ws := w_D_isSize) B.pre
  have hts : ∀ w ∈ gT, w.before _ s = true := fun w h => hts0 w (List.mem_cons_of_mem _ h)
  have hown : s.vm.findClass R_D = some m.cls := findClass_of_methodNamed B.named
  have hlocks := B.notSynchronized
  have hl := lv_entry ([.int (iZ v)]) (n := 1) (Nat.le_of_ble_eq_true rfl)
  rw [lg_entry_eq]
  generalize (lg_sl ([.int (iZ v)]) ++ List.replicate (1 - (lg_sl ([.int (iZ v)])).length) Slot.unset).toArray = ls at hl ⊢
  have hl : lv_has ls 1 [(0, .int (iZ v))] := hl
  refine lv_iload_n hx hb d_D_isSize_0 rfl (lv_at hl 0 rfl) ?_
  refine lv_iconst (v := iZ (1)) hx hb d_D_isSize_1 rfl ?_
  refine lv_sipush (v := iZ (2048)) hx hb d_D_isSize_2 (by decide) ?_
  refine vp_callSi (va_runS (As := [.int (iZ v), .int (iZ 1), .int (iZ 2048)]) (rest := []) ⟨hx, hb, hml, hown, hts⟩ (c_DotSheet_isWithin l dC dI v 1 2048 (by first | omega | assumption) (by first | omega | assumption) (by first | omega | assumption) (by first | omega | assumption) (by first | omega | assumption) (by first | omega | assumption)) (va_cwS 3 hts (gS t_151 t_152 t_1 t_153) rfl rfl rfl (by decide +kernel) ⟨Nat.le_of_ble_eq_true rfl, Nat.le_of_ble_eq_true rfl⟩) ⟨zPr_blind, zPr_pre hP hK [] [] rfl rfl⟩ rfl rfl hl.1 rfl (lv_room (Nat.le_of_ble_eq_true rfl)) d_D_isSize_5 ⟨Nat.le_of_ble_eq_true rfl, Nat.le_of_ble_eq_true rfl⟩).run (fun r_5 q_5 => ?_)
  obtain rfl := q_5
  exact W.zret (ty := .boolean) hx hb hr (bI_nar _) (fun t ht hW => ⟨_, rfl, rfl, ht⟩) (fun q h => nomatch h) d_D_isSize_8
theorem d_D_isThickness_0 : decode c_yD_isThickness 0 = .ok (.iload_n 0, 1) := by decide +kernel
theorem d_D_isThickness_1 : decode c_yD_isThickness 1 = .ok (.iconst 1, 1) := by decide +kernel
theorem d_D_isThickness_2 : decode c_yD_isThickness 2 = .ok (.sipush 200, 3) := by decide +kernel
theorem d_D_isThickness_5 : decode c_yD_isThickness 5 = .ok (.invokestatic 39, 3) := by decide +kernel
theorem d_D_isThickness_8 : decode c_yD_isThickness 8 = .ok (.ireturn, 1) := by decide +kernel
set_option maxHeartbeats 4000000 in
set_option maxRecDepth 100000 in
theorem c_DotSheet_isThickness (l : Launch) (dC : Nat → ClassId) (dI : Nat → Nat → Nat) (v : Int) (v1 : -2147483648 ≤ v) (v2 : v ≤ 2147483647) : Met l y_D_isThickness w_D_isThickness ({ frames := 1, cells := 0, slots := 0, locals := 22 }) (va_Pc [.int (iZ v)] (zPr (dC, dI) vwCl [] [])) (vp_Si (fun r => r = bI (decide (1 ≤ v ∧ v ≤ 200)))) 0 0 (fun _ => False) := by
  refine Met.ofW (cc := c_yD_isThickness) (maxL := 1) (ret := (some .boolean)) (by decide) rfl ?_
  intro p e s m args below meth c s₁ B hml hv
  obtain ⟨rfl, hP, hK⟩ := hv
  have hx := B.exec
  have hb := B.bytes
  have hr := B.returns
  have hts0 := atoms_spec (ws := w_D_isThickness) B.pre
  have hts : ∀ w ∈ gT, w.before _ s = true := fun w h => hts0 w (List.mem_cons_of_mem _ h)
  have hown : s.vm.findClass R_D = some m.cls := findClass_of_methodNamed B.named
  have hlocks := B.notSynchronized
  have hl := lv_entry ([.int (iZ v)]) (n := 1) (Nat.le_of_ble_eq_true rfl)
  rw [lg_entry_eq]
  generalize (lg_sl ([.int (iZ v)]) ++ List.replicate (1 - (lg_sl ([.int (iZ v)])).length) Slot.unset).toArray = ls at hl ⊢
  have hl : lv_has ls 1 [(0, .int (iZ v))] := hl
  refine lv_iload_n hx hb d_D_isThickness_0 rfl (lv_at hl 0 rfl) ?_
  refine lv_iconst (v := iZ (1)) hx hb d_D_isThickness_1 rfl ?_
  refine lv_sipush (v := iZ (200)) hx hb d_D_isThickness_2 (by decide) ?_
  refine vp_callSi (va_runS (As := [.int (iZ v), .int (iZ 1), .int (iZ 200)]) (rest := []) ⟨hx, hb, hml, hown, hts⟩ (c_DotSheet_isWithin l dC dI v 1 200 (by first | omega | assumption) (by first | omega | assumption) (by first | omega | assumption) (by first | omega | assumption) (by first | omega | assumption) (by first | omega | assumption)) (va_cwS 3 hts (gS t_151 t_152 t_1 t_153) rfl rfl rfl (by decide +kernel) ⟨Nat.le_of_ble_eq_true rfl, Nat.le_of_ble_eq_true rfl⟩) ⟨zPr_blind, zPr_pre hP hK [] [] rfl rfl⟩ rfl rfl hl.1 rfl (lv_room (Nat.le_of_ble_eq_true rfl)) d_D_isThickness_5 ⟨Nat.le_of_ble_eq_true rfl, Nat.le_of_ble_eq_true rfl⟩).run (fun r_5 q_5 => ?_)
  obtain rfl := q_5
  exact W.zret (ty := .boolean) hx hb hr (bI_nar _) (fun t ht hW => ⟨_, rfl, rfl, ht⟩) (fun q h => nomatch h) d_D_isThickness_8
theorem d_D_isQuarter_0 : decode c_yD_isQuarter 0 = .ok (.iload_n 0, 1) := by decide +kernel
theorem d_D_isQuarter_1 : decode c_yD_isQuarter 1 = .ok (.iconst 0, 1) := by decide +kernel
theorem d_D_isQuarter_2 : decode c_yD_isQuarter 2 = .ok (.iconst 3, 1) := by decide +kernel
theorem d_D_isQuarter_3 : decode c_yD_isQuarter 3 = .ok (.invokestatic 39, 3) := by decide +kernel
theorem d_D_isQuarter_6 : decode c_yD_isQuarter 6 = .ok (.ireturn, 1) := by decide +kernel
set_option maxHeartbeats 4000000 in
set_option maxRecDepth 100000 in
theorem c_DotSheet_isQuarter (l : Launch) (dC : Nat → ClassId) (dI : Nat → Nat → Nat) (v : Int) (v1 : -2147483648 ≤ v) (v2 : v ≤ 2147483647) : Met l y_D_isQuarter w_D_isQuarter ({ frames := 1, cells := 0, slots := 0, locals := 22 }) (va_Pc [.int (iZ v)] (zPr (dC, dI) vwCl [] [])) (vp_Si (fun r => r = bI (decide (0 ≤ v ∧ v ≤ 3)))) 0 0 (fun _ => False) := by
  refine Met.ofW (cc := c_yD_isQuarter) (maxL := 1) (ret := (some .boolean)) (by decide) rfl ?_
  intro p e s m args below meth c s₁ B hml hv
  obtain ⟨rfl, hP, hK⟩ := hv
  have hx := B.exec
  have hb := B.bytes
  have hr := B.returns
  have hts0 := atoms_spec (ws := w_D_isQuarter) B.pre
  have hts : ∀ w ∈ gT, w.before _ s = true := fun w h => hts0 w (List.mem_cons_of_mem _ h)
  have hown : s.vm.findClass R_D = some m.cls := findClass_of_methodNamed B.named
  have hlocks := B.notSynchronized
  have hl := lv_entry ([.int (iZ v)]) (n := 1) (Nat.le_of_ble_eq_true rfl)
  rw [lg_entry_eq]
  generalize (lg_sl ([.int (iZ v)]) ++ List.replicate (1 - (lg_sl ([.int (iZ v)])).length) Slot.unset).toArray = ls at hl ⊢
  have hl : lv_has ls 1 [(0, .int (iZ v))] := hl
  refine lv_iload_n hx hb d_D_isQuarter_0 rfl (lv_at hl 0 rfl) ?_
  refine lv_iconst (v := iZ (0)) hx hb d_D_isQuarter_1 rfl ?_
  refine lv_iconst (v := iZ (3)) hx hb d_D_isQuarter_2 rfl ?_
  refine vp_callSi (va_runS (As := [.int (iZ v), .int (iZ 0), .int (iZ 3)]) (rest := []) ⟨hx, hb, hml, hown, hts⟩ (c_DotSheet_isWithin l dC dI v 0 3 (by first | omega | assumption) (by first | omega | assumption) (by first | omega | assumption) (by first | omega | assumption) (by first | omega | assumption) (by first | omega | assumption)) (va_cwS 3 hts (gS t_151 t_152 t_1 t_153) rfl rfl rfl (by decide +kernel) ⟨Nat.le_of_ble_eq_true rfl, Nat.le_of_ble_eq_true rfl⟩) ⟨zPr_blind, zPr_pre hP hK [] [] rfl rfl⟩ rfl rfl hl.1 rfl (lv_room (Nat.le_of_ble_eq_true rfl)) d_D_isQuarter_3 ⟨Nat.le_of_ble_eq_true rfl, Nat.le_of_ble_eq_true rfl⟩).run (fun r_3 q_3 => ?_)
  obtain rfl := q_3
  exact W.zret (ty := .boolean) hx hb hr (bI_nar _) (fun t ht hW => ⟨_, rfl, rfl, ht⟩) (fun q h => nomatch h) d_D_isQuarter_6
theorem d_D_isFont_0 : decode c_yD_isFont 0 = .ok (.iload_n 0, 1) := by decide +kernel
theorem d_D_isFont_1 : decode c_yD_isFont 1 = .ok (.iconst 0, 1) := by decide +kernel
theorem d_D_isFont_2 : decode c_yD_isFont 2 = .ok (.iconst 3, 1) := by decide +kernel
theorem d_D_isFont_3 : decode c_yD_isFont 3 = .ok (.invokestatic 39, 3) := by decide +kernel
theorem d_D_isFont_6 : decode c_yD_isFont 6 = .ok (.ireturn, 1) := by decide +kernel
set_option maxHeartbeats 4000000 in
set_option maxRecDepth 100000 in
theorem c_DotSheet_isFont (l : Launch) (dC : Nat → ClassId) (dI : Nat → Nat → Nat) (v : Int) (v1 : -2147483648 ≤ v) (v2 : v ≤ 2147483647) : Met l y_D_isFont w_D_isFont ({ frames := 1, cells := 0, slots := 0, locals := 22 }) (va_Pc [.int (iZ v)] (zPr (dC, dI) vwCl [] [])) (vp_Si (fun r => r = bI (decide (0 ≤ v ∧ v ≤ 3)))) 0 0 (fun _ => False) := by
  refine Met.ofW (cc := c_yD_isFont) (maxL := 1) (ret := (some .boolean)) (by decide) rfl ?_
  intro p e s m args below meth c s₁ B hml hv
  obtain ⟨rfl, hP, hK⟩ := hv
  have hx := B.exec
  have hb := B.bytes
  have hr := B.returns
  have hts0 := atoms_spec (ws := w_D_isFont) B.pre
  have hts : ∀ w ∈ gT, w.before _ s = true := fun w h => hts0 w (List.mem_cons_of_mem _ h)
  have hown : s.vm.findClass R_D = some m.cls := findClass_of_methodNamed B.named
  have hlocks := B.notSynchronized
  have hl := lv_entry ([.int (iZ v)]) (n := 1) (Nat.le_of_ble_eq_true rfl)
  rw [lg_entry_eq]
  generalize (lg_sl ([.int (iZ v)]) ++ List.replicate (1 - (lg_sl ([.int (iZ v)])).length) Slot.unset).toArray = ls at hl ⊢
  have hl : lv_has ls 1 [(0, .int (iZ v))] := hl
  refine lv_iload_n hx hb d_D_isFont_0 rfl (lv_at hl 0 rfl) ?_
  refine lv_iconst (v := iZ (0)) hx hb d_D_isFont_1 rfl ?_
  refine lv_iconst (v := iZ (3)) hx hb d_D_isFont_2 rfl ?_
  refine vp_callSi (va_runS (As := [.int (iZ v), .int (iZ 0), .int (iZ 3)]) (rest := []) ⟨hx, hb, hml, hown, hts⟩ (c_DotSheet_isWithin l dC dI v 0 3 (by first | omega | assumption) (by first | omega | assumption) (by first | omega | assumption) (by first | omega | assumption) (by first | omega | assumption) (by first | omega | assumption)) (va_cwS 3 hts (gS t_151 t_152 t_1 t_153) rfl rfl rfl (by decide +kernel) ⟨Nat.le_of_ble_eq_true rfl, Nat.le_of_ble_eq_true rfl⟩) ⟨zPr_blind, zPr_pre hP hK [] [] rfl rfl⟩ rfl rfl hl.1 rfl (lv_room (Nat.le_of_ble_eq_true rfl)) d_D_isFont_3 ⟨Nat.le_of_ble_eq_true rfl, Nat.le_of_ble_eq_true rfl⟩).run (fun r_3 q_3 => ?_)
  obtain rfl := q_3
  exact W.zret (ty := .boolean) hx hb hr (bI_nar _) (fun t ht hW => ⟨_, rfl, rfl, ht⟩) (fun q h => nomatch h) d_D_isFont_6
theorem d_D_demand_0 : decode c_yD_demand 0 = .ok (.iload_n 0, 1) := by decide +kernel
theorem d_D_demand_1 : decode c_yD_demand 1 = .ok (.ifCond .ne 13, 3) := by decide +kernel
theorem d_D_demand_4 : decode c_yD_demand 4 = .ok (.new 197, 3) := by decide +kernel
theorem d_D_demand_7 : decode c_yD_demand 7 = .ok (.dup, 1) := by decide +kernel
theorem d_D_demand_8 : decode c_yD_demand 8 = .ok (.ldc 225, 2) := by decide +kernel
theorem d_D_demand_10 : decode c_yD_demand 10 = .ok (.invokespecial 201, 3) := by decide +kernel
theorem d_D_demand_13 : decode c_yD_demand 13 = .ok (.athrow, 1) := by decide +kernel
theorem d_D_demand_14 : decode c_yD_demand 14 = .ok (.return_, 1) := by decide +kernel
set_option maxHeartbeats 4000000 in
set_option maxRecDepth 100000 in
theorem c_DotSheet_demand (l : Launch) (hnt : l.stackTraces = false) (dC : Nat → ClassId) (dI : Nat → Nat → Nat) (sa : Nat → Nat) (b : Bool) (sz : Nat)  : vx_Met l y_D_demand w_D_demand ({ frames := 6, cells := 1, slots := 6, locals := 100 }) (va_Pc [.int (bI b)] (zPx (dC, dI) vwCl [] [] sz sa)) (va_Qv (fun (u : Unit) => b = true) (fun u => zB (dC, dI) vwCl [] (va_A [] sz) []) (va_A [] sz)) (zX (fun E => E = "java/lang/IllegalArgumentException" ∧ b = false) (dC, dI) vwCl [] (va_A [] sz) []) 1 6 (va_A [] sz) := by
  refine vx_ofW (cc := c_yD_demand) (maxL := 1) (ret := none) (by decide) rfl ?_
  intro p e s m args below meth c s₁ B hml noEx hv
  obtain ⟨rfl, hsz, hP, hK, hD0, hXK⟩ := hv
  have hx := B.exec
  have hb := B.bytes
  have hr := B.returns
  have hts0 := atoms_spec (ws := w_D_demand) B.pre
  have hts : ∀ w ∈ gT, w.before _ s = true := fun w h => hts0 w (List.mem_cons_of_mem _ h)
  have hown : s.vm.findClass R_D = some m.cls := findClass_of_methodNamed B.named
  have hlocks := B.notSynchronized
  subst hsz
  have hD := hD0.self (sz := s.heap.size)
  generalize hAe : va_A [] s.heap.size = A at hD hXK ⊢
  have hA : ∀ q : Nat, s.heap.size ≤ q → A q := fun q h => by rw [← hAe]; exact Or.inr h
  obtain ⟨H, hH⟩ : ∃ H, s.heap = H := ⟨_, rfl⟩
  have hS : va_S A s.heap H [] := by rw [← hH]; exact va_S.rf
  rw [hH] at hP
  rw [hH]
  have hl := lv_entry ([.int (bI b)]) (n := 1) (Nat.le_of_ble_eq_true rfl)
  rw [lg_entry_eq]
  generalize (lg_sl ([.int (bI b)]) ++ List.replicate (1 - (lg_sl ([.int (bI b)])).length) Slot.unset).toArray = ls at hl ⊢
  have hl : lv_has ls 1 [(0, .int (bI b))] := hl
  refine lv_iload_n hx hb d_D_demand_0 rfl (lv_at hl 0 rfl) ?_
  refine zb_if_ne (tgt := 14) hx hb d_D_demand_1 (by decide) (fun c_1 => ?_) (fun c_1 => ?_)
  · refine vx_ret ?_
    refine W.widen (k := 1) (n := 6) (Nat.le_of_ble_eq_true rfl) (Nat.le_of_ble_eq_true rfl) ?_
    exact W.vret hx hb hr (fun t ht hW => ⟨⟨(()), rfl, c_1, by rw [ht]; exact hP, va_K.moved hW.alike hK, hD⟩, hS.F ht⟩) hS.2.2 d_D_demand_14
  · exact vx_throwS (own := R_D) (cls := "java/lang/IllegalArgumentException") (text := "an argument is out of its range") (names := ["java/lang/RuntimeException", "java/lang/Exception"]) (A := A) hx hb hnt hown rfl (by decide +kernel) (hts _ t_157) (hts _ t_10) (hXK.2.1 0 _ rfl) (vx_hat (fun w9 h9 => hts w9 (xg_201 w9 h9)) xb_201 (fun w9 h9 => va_Nw.use (xb_ot w9 h9) (hXK.1 w9 h9))) xo_201 hXK.2.2.1 hXK.2.2.2 hS (hl.1.trans hml.symm) d_D_demand_4 d_D_demand_7 d_D_demand_8 d_D_demand_10 d_D_demand_13 (fun x9 h9 => (noEx x9 h9).elim) (Nat.lt_of_lt_of_le (Nat.lt_succ_self _) (Nat.le_of_ble_eq_true rfl)) (Nat.le_of_ble_eq_true rfl) (Nat.le_of_ble_eq_true rfl) (Nat.le_of_ble_eq_true rfl) hlocks (fun t ha hz hk => ⟨(), trivial, ⟨⟨rfl, c_1⟩, zX_P hP hk, va_K.moved ha hK, hD⟩, hS.trans hz hk⟩) hS.2.2 (Nat.le_of_ble_eq_true rfl) (Nat.le_of_ble_eq_true rfl)
