/-! the law's own methods, which catch: which exceptions are not others; their words -/
def yN (U : State) : Prop := va_Nc "java/lang/IndexOutOfBoundsException" "java/lang/IllegalArgumentException" U ∧ va_Nc "java/lang/IllegalStateException" "java/lang/IllegalArgumentException" U
theorem yN.moved {u U : State} (hvm : u.vm.Alike U.vm) (h : yN u) : yN U := ⟨va_Nc.moved hvm h.1, va_Nc.moved hvm h.2⟩
def zPy (D : va_G) (cl : List vw_C) (ws : va_W) (tys : List (ClassId × FieldType)) (sz : Nat) (sa : Nat → Nat) (U : State) : Prop := zPx D cl ws tys sz sa U ∧ yN U
theorem zPy_blind {D : va_G} {cl : List vw_C} {av : List Value} {ws : va_W} {tys : List (ClassId × FieldType)} {sz : Nat} {sa : Nat → Nat} : FrameBlind (va_Pc av (zPy D cl ws tys sz sa)) := fun a U g mk q => ⟨q.1, (zPx_blind (av := av) a U g mk ⟨q.1, q.2.1⟩).2, yN.moved (u := U) (U := U.calling g mk a) (Vm.Alike.refl U.vm) q.2.2⟩
theorem zPy_pre {D : va_G} {cl : List vw_C} {A : Nat → Prop} {H : Heap} {locs : List Loc} {s : State} {av : List Value} {ws ws' : va_W} {tys tys' : List (ClassId × FieldType)} {sa : Nat → Nat} (hy : yN s) (hP : va_P D cl ws H) (hD : va_D A ws) (hK : va_K D cl tys s) (hX : xK sa A s s.heap) (hS : va_S A s.heap H locs) (hA : ∀ q, s.heap.size ≤ q → A q) (is js : List Nat) (hn : va_nd is = true) (h1 : is.map (fun i => ws[i]?) = ws'.map some) (h0 : is.filterMap (fun i => ws[i]?) = ws') (h2 : js.filterMap (fun i => tys[i]?) = tys') : ∀ U : State, U.heap = H → s.WarmedH U.vm → va_Pc av (zPy D cl ws' tys' H.size sa) av.toArray U :=
  fun U hU hW => ⟨rfl, (zPx_pre (av := av) hP hD hK hX hS hA is js hn h1 h0 h2 U hU hW).2, yN.moved hW.alike hy⟩
theorem gSW {own : String} {idx n : Nat} {y : MethodName} {b : ByteArray} {r : Option FieldType} {hh : List (Nat × Nat × Nat × Nat)} (h1 : Cond.methodLink own idx y ∈ gT) (h2 : Cond.static y ∈ gT) (h4 : Cond.initialized y.cls ∈ gT) (h5 : Cond.codeWith y b n r hh ∈ gT) : GoodIn gT (va_wsS own idx y (.codeWith y b n r hh :: gT)) := by
  intro w h
  have hm : w ∈ gT := by
    simp only [va_wsS, List.cons_append, List.nil_append, List.mem_cons] at h
    rcases h with rfl | rfl | rfl | rfl | h
    · exact h1
    · exact h2
    · exact h4
    · exact h5
    · exact h
  exact gT_good w hm
theorem xc_A : Cond.castable "java/lang/IllegalArgumentException" "java/lang/IllegalArgumentException" ∈ xBl := List.mem_of_getElem? (i := 0) rfl
theorem xc_B : Cond.castable "java/lang/IndexOutOfBoundsException" "java/lang/IndexOutOfBoundsException" ∈ xBl := List.mem_of_getElem? (i := 1) rfl
theorem xc_S : Cond.castable "java/lang/IllegalStateException" "java/lang/IllegalStateException" ∈ xBl := List.mem_of_getElem? (i := 2) rfl
abbrev w_La_sheet : List Cond := .codeWith y_La_sheet c_yLa_sheet 4 (some .int) [((0 : Nat), (6 : Nat), (9 : Nat), (13 : Nat))] :: gT
abbrev w_La_way : List Cond := .codeWith y_La_way c_yLa_way 4 (some .int) [((0 : Nat), (9 : Nat), (12 : Nat), (13 : Nat))] :: gT
abbrev w_La_write : List Cond := .codeWith y_La_write c_yLa_write 6 (some .int) [((0 : Nat), (11 : Nat), (14 : Nat), (13 : Nat))] :: gT
abbrev w_La_frame : List Cond := .codeWith y_La_frame c_yLa_frame 8 (some .int) [((0 : Nat), (16 : Nat), (19 : Nat), (13 : Nat))] :: gT
abbrev w_La_line : List Cond := .codeWith y_La_line c_yLa_line 8 (some .int) [((0 : Nat), (16 : Nat), (19 : Nat), (13 : Nat))] :: gT
abbrev w_La_ellipse : List Cond := .codeWith y_La_ellipse c_yLa_ellipse 8 (some .int) [((0 : Nat), (16 : Nat), (19 : Nat), (13 : Nat))] :: gT
abbrev w_La_picture : List Cond := .codeWith y_La_picture c_yLa_picture 6 (some .int) [((0 : Nat), (12 : Nat), (15 : Nat), (13 : Nat)), ((0 : Nat), (12 : Nat), (19 : Nat), (51 : Nat))] :: gT
abbrev w_La_font : List Cond := .codeWith y_La_font c_yLa_font 6 (some .int) [((0 : Nat), (9 : Nat), (12 : Nat), (13 : Nat))] :: gT
abbrev w_La_cell : List Cond := .codeWith y_La_cell c_yLa_cell 6 (some .int) [((0 : Nat), (9 : Nat), (12 : Nat), (13 : Nat)), ((0 : Nat), (9 : Nat), (16 : Nat), (40 : Nat))] :: gT
abbrev w_La_text : List Cond := .codeWith y_La_text c_yLa_text 8 (some .int) [((0 : Nat), (16 : Nat), (19 : Nat), (13 : Nat))] :: gT
abbrev w_La_bars : List Cond := .codeWith y_La_bars c_yLa_bars 8 (some .int) [((0 : Nat), (16 : Nat), (19 : Nat), (13 : Nat))] :: gT
abbrev w_La_square : List Cond := .codeWith y_La_square c_yLa_square 8 (some .int) [((0 : Nat), (16 : Nat), (19 : Nat), (13 : Nat)), ((0 : Nat), (16 : Nat), (23 : Nat), (51 : Nat))] :: gT
abbrev w_La_turn : List Cond := .codeWith y_La_turn c_yLa_turn 3 (some .int) [((0 : Nat), (5 : Nat), (8 : Nat), (13 : Nat))] :: gT
abbrev w_La_told : List Cond := .codeWith y_La_told c_yLa_told 4 (some .int) [((0 : Nat), (9 : Nat), (12 : Nat), (13 : Nat))] :: gT
abbrev w_La_count : List Cond := .codeWith y_La_count c_yLa_count 7 (some .int) [((0 : Nat), (14 : Nat), (17 : Nat), (13 : Nat))] :: gT
abbrev w_La_dots : List Cond := .codeWith y_La_dots c_yLa_dots 6 (some .int) [((0 : Nat), (11 : Nat), (14 : Nat), (13 : Nat))] :: gT
abbrev w_La_run : List Cond := .codeWith y_La_run c_yLa_run 7 (some .int) [((0 : Nat), (14 : Nat), (17 : Nat), (13 : Nat)), ((0 : Nat), (14 : Nat), (21 : Nat), (40 : Nat))] :: gT
theorem d_La_sheet_0 : decode c_yLa_sheet 0 = .ok (.aload_n 0, 1) := by decide +kernel
theorem d_La_sheet_1 : decode c_yLa_sheet 1 = .ok (.iload_n 1, 1) := by decide +kernel
theorem d_La_sheet_2 : decode c_yLa_sheet 2 = .ok (.iload_n 2, 1) := by decide +kernel
theorem d_La_sheet_3 : decode c_yLa_sheet 3 = .ok (.invokevirtual 7, 3) := by decide +kernel
theorem d_La_sheet_6 : decode c_yLa_sheet 6 = .ok (.goto 6, 3) := by decide +kernel
theorem d_La_sheet_9 : decode c_yLa_sheet 9 = .ok (.astore_n 3, 1) := by decide +kernel
theorem d_La_sheet_10 : decode c_yLa_sheet 10 = .ok (.iconst 1, 1) := by decide +kernel
theorem d_La_sheet_11 : decode c_yLa_sheet 11 = .ok (.ireturn, 1) := by decide +kernel
theorem d_La_sheet_12 : decode c_yLa_sheet 12 = .ok (.iconst 0, 1) := by decide +kernel
theorem d_La_sheet_13 : decode c_yLa_sheet 13 = .ok (.ireturn, 1) := by decide +kernel
set_option maxHeartbeats 4000000 in
set_option maxRecDepth 100000 in
theorem c_Law_sheet (l : Launch) (hnt : l.stackTraces = false) (dC : Nat → ClassId) (dI : Nat → Nat → Nat) (sa : Nat → Nat) (hx_ hst hd hfa hp hw hs hk : Nat) (cL : ClassId) (w h mn : Int) (G : Int → Int64) (nw nh : Int) (sz : Nat) (nw1 : -2147483648 ≤ nw) (nh1 : -2147483648 ≤ nh) (nw2 : nw ≤ 2147483647) (nh2 : nh ≤ 2147483647) : Met l y_La_sheet w_La_sheet ({ frames := 8, cells := 1, slots := 6, locals := 142 }) (va_Pc [.ref hx_, .int (iZ nw), .int (iZ nh)] (zPy (dC, dI) vwCl [(hx_, .inr (4, [.ref hp, .ref hst, .ref hd, .ref hfa])), (hp, .inr (2, [.int (iZ w), .int (iZ h), .int (iZ mn), .ref hw, .ref hs, .ref hk])), (hw, .inl (cL, 16384, .inr (.inl (aL G))))] [(cL, .long)] sz sa)) (va_Qi (fun (r : Int32) (u : Int × Int × (Int → Int64)) => ∃ k : Int, r = iZ k ∧ ((k = 0 ∧ ∃ (u9 : Int → Int64), ((1 ≤ nw ∧ nw ≤ 1024 ∧ 1 ≤ nh ∧ nh ≤ 1024) ∧ Rep u9 (fun _ _ => false)) ∧ u.1 = nw ∧ u.2.1 = nh ∧ u.2.2 = u9) ∨ ((k = 1 ∧ ¬ (1 ≤ nw ∧ nw ≤ 1024 ∧ 1 ≤ nh ∧ nh ≤ 1024)) ∧ u.1 = w ∧ u.2.1 = h ∧ u.2.2 = G))) (fun u => zB (dC, dI) vwCl [(cL, .long)] (va_A [(hx_, .inr (4, [.ref hp, .ref hst, .ref hd, .ref hfa])), (hp, .inr (2, [.int (iZ w), .int (iZ h), .int (iZ mn), .ref hw, .ref hs, .ref hk])), (hw, .inl (cL, 16384, .inr (.inl (aL G))))] sz) [(hx_, .inr (4, [.ref hp, .ref hst, .ref hd, .ref hfa])), (hp, .inr (2, [.int (iZ u.1), .int (iZ u.2.1), .int (iZ mn), .ref hw, .ref hs, .ref hk])), (hw, .inl (cL, 16384, .inr (.inl (aL u.2.2))))]) (va_A [(hx_, .inr (4, [.ref hp, .ref hst, .ref hd, .ref hfa])), (hp, .inr (2, [.int (iZ w), .int (iZ h), .int (iZ mn), .ref hw, .ref hs, .ref hk])), (hw, .inl (cL, 16384, .inr (.inl (aL G))))] sz)) 1 6 (va_A [(hx_, .inr (4, [.ref hp, .ref hst, .ref hd, .ref hfa])), (hp, .inr (2, [.int (iZ w), .int (iZ h), .int (iZ mn), .ref hw, .ref hs, .ref hk])), (hw, .inl (cL, 16384, .inr (.inl (aL G))))] sz) := by
  refine va_MetW (cc := c_yLa_sheet) (maxL := 4) (ret := (some .int)) (hh := [((0 : Nat), (6 : Nat), (9 : Nat), (13 : Nat))]) (by decide) rfl ?_
  intro p e s m args below meth c s₁ B hml hv
  obtain ⟨rfl, ⟨hsz, hP, hK, hD0, hXK⟩, hyN⟩ := hv
  have hx := B.exec
  have hb := B.bytes
  have hr := B.returns
  have hts0 := atoms_spec (ws := w_La_sheet) B.pre
  have hts : ∀ w ∈ gT, w.before _ s = true := fun w h => hts0 w (List.mem_cons_of_mem _ h)
  have hown : s.vm.findClass R_La = some m.cls := findClass_of_methodNamed B.named
  have hlocks := B.notSynchronized
  have htb : c.exceptionTable.toList = tableOf ([((0 : Nat), (6 : Nat), (9 : Nat), (13 : Nat))]) := vx_table (x := y_La_sheet) B (hts0 _ List.mem_cons_self)
  subst hsz
  have hD := hD0.self (sz := s.heap.size)
  generalize hAe : va_A [(hx_, .inr (4, [.ref hp, .ref hst, .ref hd, .ref hfa])), (hp, .inr (2, [.int (iZ w), .int (iZ h), .int (iZ mn), .ref hw, .ref hs, .ref hk])), (hw, .inl (cL, 16384, .inr (.inl (aL G))))] s.heap.size = A at hD hXK ⊢
  have hA : ∀ q : Nat, s.heap.size ≤ q → A q := fun q h => by rw [← hAe]; exact Or.inr h
  obtain ⟨H, hH⟩ : ∃ H, s.heap = H := ⟨_, rfl⟩
  have hS : va_S A s.heap H [] := by rw [← hH]; exact va_S.rf
  rw [hH] at hP
  rw [hH]
  have hl := lv_entry ([.ref hx_, .int (iZ nw), .int (iZ nh)]) (n := 4) (Nat.le_of_ble_eq_true rfl)
  rw [lg_entry_eq]
  generalize (lg_sl ([.ref hx_, .int (iZ nw), .int (iZ nh)]) ++ List.replicate (4 - (lg_sl ([.ref hx_, .int (iZ nw), .int (iZ nh)])).length) Slot.unset).toArray = ls at hl ⊢
  have hl : lv_has ls 4 [(0, .ref hx_), (1, .int (iZ nw)), (2, .int (iZ nh))] := hl
  refine lv_aload_n hx hb d_La_sheet_0 rfl (lv_at hl 0 rfl) ?_
  refine lv_iload_n hx hb d_La_sheet_1 rfl (lv_at hl 1 rfl) ?_
  refine lv_iload_n hx hb d_La_sheet_2 rfl (lv_at hl 2 rfl) ?_
  refine zx_v (w1 := fun (u_3 : Int → Int64) => [(hx_, .inr (4, [.ref hp, .ref hst, .ref hd, .ref hfa])), (hp, .inr (2, [.int (iZ nw), .int (iZ nh), .int (iZ mn), .ref hw, .ref hs, .ref hk])), (hw, .inl (cL, 16384, .inr (.inl (aL u_3))))]) (wr := []) (vx_runV (As := [.int (iZ nw), .int (iZ nh)]) (rest := []) ⟨hx, hb, hml, hown, hts⟩ (c_DotSheet_sheet l hnt dC dI sa hx_ hst hd hfa hp hw hs hk cL w h mn G nw nh H.size (by first | omega | assumption) (by first | omega | assumption) (by first | omega | assumption) (by first | omega | assumption)) (cwV 2 hts (gV t_147 t_148 t_149 t_1 t_150) rfl rfl rfl (by decide +kernel) ⟨Nat.le_of_ble_eq_true rfl, Nat.le_of_ble_eq_true rfl⟩) ⟨zPx_blind, va_recv hK hP (ci := 4) (q0 := 0) rfl rfl, zPx_pre hP hD hK hXK hS hA [0, 1, 2] [0] rfl rfl rfl rfl⟩ rfl rfl hl.1 rfl (lv_room (Nat.le_of_ble_eq_true rfl)) d_La_sheet_3 ⟨Nat.le_of_ble_eq_true rfl, Nat.le_of_ble_eq_true rfl⟩) hP hD hS hA [0, 1, 2] [] rfl rfl rfl (by decide) (fun E_ ce_ q9_ H locs x_3 hP hD hS hce hcv hcl => ?_) (fun u_3 H locs q_3 hP hD hS => ?_)
  · have hP : va_P (dC, dI) vwCl [(hx_, .inr (4, [.ref hp, .ref hst, .ref hd, .ref hfa])), (hp, .inr (2, [.int (iZ w), .int (iZ h), .int (iZ mn), .ref hw, .ref hs, .ref hk])), (hw, .inl (cL, 16384, .inr (.inl (aL G))))] H := hP
    have hD : va_D A [(hx_, .inr (4, [.ref hp, .ref hst, .ref hd, .ref hfa])), (hp, .inr (2, [.int (iZ w), .int (iZ h), .int (iZ mn), .ref hw, .ref hs, .ref hk])), (hw, .inl (cL, 16384, .inr (.inl (aL G))))] := hD
    obtain ⟨rfl, x_3⟩ := x_3
    refine vx_catch (own := R_La) (name := "java/lang/IllegalArgumentException") hown [] ⟨0, 6, 9, 13⟩ [] htb (fun z hz => nomatch hz) (by decide) (by decide) (hts _ t_146) (va_Nw.use rfl (hXK.1 _ xc_A)) hce hcv hcl ?_
    refine lv_astore_n (lv' := [(3, .ref q9_), (0, .ref hx_), (1, .int (iZ nw)), (2, .int (iZ nh))]) hx hb d_La_sheet_9 rfl hl (by decide) rfl (fun ls hl => ?_)
    refine lv_iconst (v := iZ (1)) hx hb d_La_sheet_10 rfl ?_
    exact W.iret hx hb hr (fun t9_ ht hW => ⟨⟨_, ((w, h, G)), rfl, ⟨1, rfl, Or.inr ⟨⟨rfl, x_3⟩, rfl, rfl, rfl⟩⟩, by rw [ht]; exact hP, va_K.moved hW.alike hK, hD⟩, hS.F ht⟩) hS.2.2 d_La_sheet_11
  have hP : va_P (dC, dI) vwCl [(hx_, .inr (4, [.ref hp, .ref hst, .ref hd, .ref hfa])), (hp, .inr (2, [.int (iZ nw), .int (iZ nh), .int (iZ mn), .ref hw, .ref hs, .ref hk])), (hw, .inl (cL, 16384, .inr (.inl (aL u_3))))] H := hP
  have hD : va_D A [(hx_, .inr (4, [.ref hp, .ref hst, .ref hd, .ref hfa])), (hp, .inr (2, [.int (iZ nw), .int (iZ nh), .int (iZ mn), .ref hw, .ref hs, .ref hk])), (hw, .inl (cL, 16384, .inr (.inl (aL u_3))))] := hD
  refine lv_goto (tgt := 12) hx hb d_La_sheet_6 (by decide) ?_
  refine lv_iconst (v := iZ (0)) hx hb d_La_sheet_12 rfl ?_
  exact W.iret hx hb hr (fun t9_ ht hW => ⟨⟨_, ((nw, nh, u_3)), rfl, ⟨0, rfl, Or.inl ⟨rfl, u_3, q_3, rfl, rfl, rfl⟩⟩, by rw [ht]; exact hP, va_K.moved hW.alike hK, hD⟩, hS.F ht⟩) hS.2.2 d_La_sheet_13
theorem d_La_way_0 : decode c_yLa_way 0 = .ok (.aload_n 2, 1) := by decide +kernel
theorem d_La_way_1 : decode c_yLa_way 1 = .ok (.iconst 0, 1) := by decide +kernel
theorem d_La_way_2 : decode c_yLa_way 2 = .ok (.aload_n 0, 1) := by decide +kernel
theorem d_La_way_3 : decode c_yLa_way 3 = .ok (.iload_n 1, 1) := by decide +kernel
theorem d_La_way_4 : decode c_yLa_way 4 = .ok (.invokevirtual 15, 3) := by decide +kernel
theorem d_La_way_7 : decode c_yLa_way 7 = .ok (.i2l, 1) := by decide +kernel
theorem d_La_way_8 : decode c_yLa_way 8 = .ok (.lastore, 1) := by decide +kernel
theorem d_La_way_9 : decode c_yLa_way 9 = .ok (.goto 6, 3) := by decide +kernel
theorem d_La_way_12 : decode c_yLa_way 12 = .ok (.astore_n 3, 1) := by decide +kernel
theorem d_La_way_13 : decode c_yLa_way 13 = .ok (.iconst 1, 1) := by decide +kernel
theorem d_La_way_14 : decode c_yLa_way 14 = .ok (.ireturn, 1) := by decide +kernel
theorem d_La_way_15 : decode c_yLa_way 15 = .ok (.iconst 0, 1) := by decide +kernel
theorem d_La_way_16 : decode c_yLa_way 16 = .ok (.ireturn, 1) := by decide +kernel
set_option maxHeartbeats 4000000 in
set_option maxRecDepth 100000 in
theorem c_Law_way (l : Launch) (hnt : l.stackTraces = false) (dC : Nat → ClassId) (dI : Nat → Nat → Nat) (sa : Nat → Nat) (hx_ hst hd hfa hp hw hs hk : Nat) (w h mn nm : Int) (cL : ClassId) (ho : Nat) (O : Int → Int64) (sz : Nat) (nm1 : -2147483648 ≤ nm) (nm2 : nm ≤ 2147483647) : Met l y_La_way w_La_way ({ frames := 8, cells := 1, slots := 6, locals := 142 }) (va_Pc [.ref hx_, .int (iZ nm), .ref ho] (zPy (dC, dI) vwCl [(hx_, .inr (4, [.ref hp, .ref hst, .ref hd, .ref hfa])), (hp, .inr (2, [.int (iZ w), .int (iZ h), .int (iZ mn), .ref hw, .ref hs, .ref hk])), (ho, .inl (cL, 1, .inr (.inl (aL O))))] [(cL, .long)] sz sa)) (va_Qi (fun (r : Int32) (u : Int × (Int → Int64)) => ∃ k : Int, r = iZ k ∧ ((k = 0 ∧ ∃ (r9 : Int32) (u9 : Unit), (r9 = iZ mn ∧ 0 ≤ nm ∧ nm ≤ 2) ∧ u.1 = nm ∧ u.2 0 = r9.toInt64) ∨ ((k = 1 ∧ ¬ (0 ≤ nm ∧ nm ≤ 2)) ∧ u.1 = mn))) (fun u => zB (dC, dI) vwCl [(cL, .long)] (va_A [(hx_, .inr (4, [.ref hp, .ref hst, .ref hd, .ref hfa])), (hp, .inr (2, [.int (iZ w), .int (iZ h), .int (iZ mn), .ref hw, .ref hs, .ref hk])), (ho, .inl (cL, 1, .inr (.inl (aL O))))] sz) [(hx_, .inr (4, [.ref hp, .ref hst, .ref hd, .ref hfa])), (hp, .inr (2, [.int (iZ w), .int (iZ h), .int (iZ u.1), .ref hw, .ref hs, .ref hk])), (ho, .inl (cL, 1, .inr (.inl (aL u.2))))]) (va_A [(hx_, .inr (4, [.ref hp, .ref hst, .ref hd, .ref hfa])), (hp, .inr (2, [.int (iZ w), .int (iZ h), .int (iZ mn), .ref hw, .ref hs, .ref hk])), (ho, .inl (cL, 1, .inr (.inl (aL O))))] sz)) 1 6 (va_A [(hx_, .inr (4, [.ref hp, .ref hst, .ref hd, .ref hfa])), (hp, .inr (2, [.int (iZ w), .int (iZ h), .int (iZ mn), .ref hw, .ref hs, .ref hk])), (ho, .inl (cL, 1, .inr (.inl (aL O))))] sz) := by
  refine va_MetW (cc := c_yLa_way) (maxL := 4) (ret := (some .int)) (hh := [((0 : Nat), (9 : Nat), (12 : Nat), (13 : Nat))]) (by decide) rfl ?_
  intro p e s m args below meth c s₁ B hml hv
  obtain ⟨rfl, ⟨hsz, hP, hK, hD0, hXK⟩, hyN⟩ := hv
  have hx := B.exec
  have hb := B.bytes
  have hr := B.returns
  have hts0 := atoms_spec (ws := w_La_way) B.pre
  have hts : ∀ w ∈ gT, w.before _ s = true := fun w h => hts0 w (List.mem_cons_of_mem _ h)
  have hown : s.vm.findClass R_La = some m.cls := findClass_of_methodNamed B.named
  have hlocks := B.notSynchronized
  have htb : c.exceptionTable.toList = tableOf ([((0 : Nat), (9 : Nat), (12 : Nat), (13 : Nat))]) := vx_table (x := y_La_way) B (hts0 _ List.mem_cons_self)
  subst hsz
  have hD := hD0.self (sz := s.heap.size)
  generalize hAe : va_A [(hx_, .inr (4, [.ref hp, .ref hst, .ref hd, .ref hfa])), (hp, .inr (2, [.int (iZ w), .int (iZ h), .int (iZ mn), .ref hw, .ref hs, .ref hk])), (ho, .inl (cL, 1, .inr (.inl (aL O))))] s.heap.size = A at hD hXK ⊢
  have hA : ∀ q : Nat, s.heap.size ≤ q → A q := fun q h => by rw [← hAe]; exact Or.inr h
  obtain ⟨H, hH⟩ : ∃ H, s.heap = H := ⟨_, rfl⟩
  have hS : va_S A s.heap H [] := by rw [← hH]; exact va_S.rf
  rw [hH] at hP
  rw [hH]
  have hl := lv_entry ([.ref hx_, .int (iZ nm), .ref ho]) (n := 4) (Nat.le_of_ble_eq_true rfl)
  rw [lg_entry_eq]
  generalize (lg_sl ([.ref hx_, .int (iZ nm), .ref ho]) ++ List.replicate (4 - (lg_sl ([.ref hx_, .int (iZ nm), .ref ho])).length) Slot.unset).toArray = ls at hl ⊢
  have hl : lv_has ls 4 [(0, .ref hx_), (1, .int (iZ nm)), (2, .ref ho)] := hl
  refine lv_aload_n hx hb d_La_way_0 rfl (lv_at hl 2 rfl) ?_
  refine lv_iconst (v := iZ (0)) hx hb d_La_way_1 rfl ?_
  refine lv_aload_n hx hb d_La_way_2 rfl (lv_at hl 0 rfl) ?_
  refine lv_iload_n hx hb d_La_way_3 rfl (lv_at hl 1 rfl) ?_
  refine zx_i (w1 := fun (u_4 : Unit) => [(hx_, .inr (4, [.ref hp, .ref hst, .ref hd, .ref hfa])), (hp, .inr (2, [.int (iZ w), .int (iZ h), .int (iZ nm), .ref hw, .ref hs, .ref hk]))]) (wr := [(ho, .inl (cL, 1, .inr (.inl (aL O))))]) (vx_runV (As := [.int (iZ nm)]) (rest := [.int (iZ 0), .ref ho]) ⟨hx, hb, hml, hown, hts⟩ (c_DotSheet_way l hnt dC dI sa hx_ hst hd hfa hp hw hs hk w h mn nm H.size (by first | omega | assumption) (by first | omega | assumption)) (cwV 1 hts (gV t_234 t_235 t_236 t_1 t_237) rfl rfl rfl (by decide +kernel) ⟨Nat.le_of_ble_eq_true rfl, Nat.le_of_ble_eq_true rfl⟩) ⟨zPx_blind, va_recv hK hP (ci := 4) (q0 := 0) rfl rfl, zPx_pre hP hD hK hXK hS hA [0, 1] [] rfl rfl rfl rfl⟩ rfl rfl hl.1 rfl (lv_room (Nat.le_of_ble_eq_true rfl)) d_La_way_4 ⟨Nat.le_of_ble_eq_true rfl, Nat.le_of_ble_eq_true rfl⟩) hP hD hS hA [0, 1] [2] rfl rfl rfl (by decide) (fun E_ ce_ q9_ H locs x_4 hP hD hS hce hcv hcl => ?_) (fun r_4 u_4 H locs q_4 hP hD hS => ?_)
  · have hP : va_P (dC, dI) vwCl [(ho, .inl (cL, 1, .inr (.inl (aL O)))), (hx_, .inr (4, [.ref hp, .ref hst, .ref hd, .ref hfa])), (hp, .inr (2, [.int (iZ w), .int (iZ h), .int (iZ mn), .ref hw, .ref hs, .ref hk]))] H := hP
    have hD : va_D A [(ho, .inl (cL, 1, .inr (.inl (aL O)))), (hx_, .inr (4, [.ref hp, .ref hst, .ref hd, .ref hfa])), (hp, .inr (2, [.int (iZ w), .int (iZ h), .int (iZ mn), .ref hw, .ref hs, .ref hk]))] := hD
    obtain ⟨rfl, x_4⟩ := x_4
    refine vx_catch (own := R_La) (name := "java/lang/IllegalArgumentException") hown [] ⟨0, 9, 12, 13⟩ [] htb (fun z hz => nomatch hz) (by decide) (by decide) (hts _ t_146) (va_Nw.use rfl (hXK.1 _ xc_A)) hce hcv hcl ?_
    refine lv_astore_n (lv' := [(3, .ref q9_), (0, .ref hx_), (1, .int (iZ nm)), (2, .ref ho)]) hx hb d_La_way_12 rfl hl (by decide) rfl (fun ls hl => ?_)
    refine lv_iconst (v := iZ (1)) hx hb d_La_way_13 rfl ?_
    have hP := hP.sub (ws' := [(hx_, .inr (4, [.ref hp, .ref hst, .ref hd, .ref hfa])), (hp, .inr (2, [.int (iZ w), .int (iZ h), .int (iZ mn), .ref hw, .ref hs, .ref hk])), (ho, .inl (cL, 1, .inr (.inl (aL O))))]) [1, 2, 0] rfl
    have hD := hD.sub (ws' := [(hx_, .inr (4, [.ref hp, .ref hst, .ref hd, .ref hfa])), (hp, .inr (2, [.int (iZ w), .int (iZ h), .int (iZ mn), .ref hw, .ref hs, .ref hk])), (ho, .inl (cL, 1, .inr (.inl (aL O))))]) [1, 2, 0] (by decide) rfl
    exact W.iret hx hb hr (fun t9_ ht hW => ⟨⟨_, ((mn, O)), rfl, ⟨1, rfl, Or.inr ⟨⟨rfl, x_4⟩, rfl⟩⟩, by rw [ht]; exact hP, va_K.moved hW.alike hK, hD⟩, hS.F ht⟩) hS.2.2 d_La_way_14
  have hP : va_P (dC, dI) vwCl [(ho, .inl (cL, 1, .inr (.inl (aL O)))), (hx_, .inr (4, [.ref hp, .ref hst, .ref hd, .ref hfa])), (hp, .inr (2, [.int (iZ w), .int (iZ h), .int (iZ nm), .ref hw, .ref hs, .ref hk]))] H := hP
  have hD : va_D A [(ho, .inl (cL, 1, .inr (.inl (aL O)))), (hx_, .inr (4, [.ref hp, .ref hst, .ref hd, .ref hfa])), (hp, .inr (2, [.int (iZ w), .int (iZ h), .int (iZ nm), .ref hw, .ref hs, .ref hk]))] := hD
  obtain ⟨rfl, q_4⟩ := q_4
  refine lv_i2l hx hb d_La_way_7 rfl ?_
  refine z_last hx hb hK hP hD hS 0 0 rfl rfl (by omega) (by omega) (by omega) d_La_way_8 (fun H locs hP hD hS => ?_)
  have hP : va_P (dC, dI) vwCl [(ho, .inl (cL, 1, .inr (.inl (aL (upZ O 0 ((iZ mn).toInt64)))))), (hx_, .inr (4, [.ref hp, .ref hst, .ref hd, .ref hfa])), (hp, .inr (2, [.int (iZ w), .int (iZ h), .int (iZ nm), .ref hw, .ref hs, .ref hk]))] H := hP
  have hD : va_D A [(ho, .inl (cL, 1, .inr (.inl (aL (upZ O 0 ((iZ mn).toInt64)))))), (hx_, .inr (4, [.ref hp, .ref hst, .ref hd, .ref hfa])), (hp, .inr (2, [.int (iZ w), .int (iZ h), .int (iZ nm), .ref hw, .ref hs, .ref hk]))] := hD
  refine lv_goto (tgt := 15) hx hb d_La_way_9 (by decide) ?_
  refine lv_iconst (v := iZ (0)) hx hb d_La_way_15 rfl ?_
  have hP := hP.sub (ws' := [(hx_, .inr (4, [.ref hp, .ref hst, .ref hd, .ref hfa])), (hp, .inr (2, [.int (iZ w), .int (iZ h), .int (iZ nm), .ref hw, .ref hs, .ref hk])), (ho, .inl (cL, 1, .inr (.inl (aL (upZ O 0 ((iZ mn).toInt64))))))]) [1, 2, 0] rfl
  have hD := hD.sub (ws' := [(hx_, .inr (4, [.ref hp, .ref hst, .ref hd, .ref hfa])), (hp, .inr (2, [.int (iZ w), .int (iZ h), .int (iZ nm), .ref hw, .ref hs, .ref hk])), (ho, .inl (cL, 1, .inr (.inl (aL (upZ O 0 ((iZ mn).toInt64))))))]) [1, 2, 0] (by decide) rfl
  exact W.iret hx hb hr (fun t9_ ht hW => ⟨⟨_, ((nm, upZ O 0 ((iZ mn).toInt64))), rfl, ⟨0, rfl, Or.inl ⟨rfl, _, (), ⟨rfl, q_4⟩, rfl, upZ_s O 0 ((iZ mn).toInt64)⟩⟩, by rw [ht]; exact hP, va_K.moved hW.alike hK, hD⟩, hS.F ht⟩) hS.2.2 d_La_way_16
theorem d_La_write_0 : decode c_yLa_write 0 = .ok (.aload 4, 2) := by decide +kernel
theorem d_La_write_2 : decode c_yLa_write 2 = .ok (.iconst 0, 1) := by decide +kernel
theorem d_La_write_3 : decode c_yLa_write 3 = .ok (.aload_n 0, 1) := by decide +kernel
theorem d_La_write_4 : decode c_yLa_write 4 = .ok (.iload_n 1, 1) := by decide +kernel
theorem d_La_write_5 : decode c_yLa_write 5 = .ok (.lload_n 2, 1) := by decide +kernel
theorem d_La_write_6 : decode c_yLa_write 6 = .ok (.invokevirtual 19, 3) := by decide +kernel
theorem d_La_write_9 : decode c_yLa_write 9 = .ok (.i2l, 1) := by decide +kernel
theorem d_La_write_10 : decode c_yLa_write 10 = .ok (.lastore, 1) := by decide +kernel
theorem d_La_write_11 : decode c_yLa_write 11 = .ok (.goto 7, 3) := by decide +kernel
theorem d_La_write_14 : decode c_yLa_write 14 = .ok (.astore 5, 2) := by decide +kernel
theorem d_La_write_16 : decode c_yLa_write 16 = .ok (.iconst 1, 1) := by decide +kernel
theorem d_La_write_17 : decode c_yLa_write 17 = .ok (.ireturn, 1) := by decide +kernel
theorem d_La_write_18 : decode c_yLa_write 18 = .ok (.iconst 0, 1) := by decide +kernel
theorem d_La_write_19 : decode c_yLa_write 19 = .ok (.ireturn, 1) := by decide +kernel
set_option maxHeartbeats 4000000 in
set_option maxRecDepth 100000 in
theorem c_Law_write (l : Launch) (hnt : l.stackTraces = false) (dC : Nat → ClassId) (dI : Nat → Nat → Nat) (sa : Nat → Nat) (hx_ hst hd hfa hp hy : Nat) (cB : ClassId) (n : Int) (Y : Int → Int32) (dr : Int → Int) (a : Int) (v : Int64) (cL : ClassId) (ho : Nat) (O : Int → Int64) (sz : Nat) (n1 : 0 ≤ n) (n2 : n ≤ 4096) (hY : RepD Y n dr) (a1 : -2147483648 ≤ a) (a2 : a ≤ 2147483647) : Met l y_La_write w_La_write ({ frames := 8, cells := 1, slots := 6, locals := 143 }) (va_Pc [.ref hx_, .int (iZ a), .long v, .ref ho] (zPy (dC, dI) vwCl [(hx_, .inr (4, [.ref hp, .ref hst, .ref hd, .ref hfa])), (hd, .inr (0, [.int (iZ n), .ref hy])), (hy, .inl (cB, 4096, .inl (aI Y))), (ho, .inl (cL, 1, .inr (.inl (aL O))))] [(cB, .byte), (cL, .long)] sz sa)) (va_Qi (fun (r : Int32) (u : Int × (Int → Int32) × (Int → Int64)) => ∃ k : Int, r = iZ k ∧ ((k = 0 ∧ ∃ (r9 : Int32) (u9 : (Int → Int32) × Int), (r9 = iZ (if n + a ≤ 4096 then n + a else -1) ∧ (1 ≤ a ∧ a ≤ 8) ∧ (n + a ≤ 4096 → u9.2 = n + a ∧ RepD u9.1 (n + a) (fun j => if j < n then dr j else bOf v (j - n))) ∧ (¬ n + a ≤ 4096 → u9.1 = Y ∧ u9.2 = n)) ∧ u.1 = u9.2 ∧ u.2.1 = u9.1 ∧ u.2.2 0 = r9.toInt64) ∨ ((k = 1 ∧ ¬ (1 ≤ a ∧ a ≤ 8)) ∧ u.1 = n ∧ u.2.1 = Y))) (fun u => zB (dC, dI) vwCl [(cB, .byte), (cL, .long)] (va_A [(hx_, .inr (4, [.ref hp, .ref hst, .ref hd, .ref hfa])), (hd, .inr (0, [.int (iZ n), .ref hy])), (hy, .inl (cB, 4096, .inl (aI Y))), (ho, .inl (cL, 1, .inr (.inl (aL O))))] sz) [(hx_, .inr (4, [.ref hp, .ref hst, .ref hd, .ref hfa])), (hd, .inr (0, [.int (iZ u.1), .ref hy])), (hy, .inl (cB, 4096, .inl (aI u.2.1))), (ho, .inl (cL, 1, .inr (.inl (aL u.2.2))))]) (va_A [(hx_, .inr (4, [.ref hp, .ref hst, .ref hd, .ref hfa])), (hd, .inr (0, [.int (iZ n), .ref hy])), (hy, .inl (cB, 4096, .inl (aI Y))), (ho, .inl (cL, 1, .inr (.inl (aL O))))] sz)) 1 6 (va_A [(hx_, .inr (4, [.ref hp, .ref hst, .ref hd, .ref hfa])), (hd, .inr (0, [.int (iZ n), .ref hy])), (hy, .inl (cB, 4096, .inl (aI Y))), (ho, .inl (cL, 1, .inr (.inl (aL O))))] sz) := by
  refine va_MetW (cc := c_yLa_write) (maxL := 6) (ret := (some .int)) (hh := [((0 : Nat), (11 : Nat), (14 : Nat), (13 : Nat))]) (by decide) rfl ?_
  intro p e s m args below meth c s₁ B hml hv
  obtain ⟨rfl, ⟨hsz, hP, hK, hD0, hXK⟩, hyN⟩ := hv
  have hx := B.exec
  have hb := B.bytes
  have hr := B.returns
  have hts0 := atoms_spec (ws := w_La_write) B.pre
  have hts : ∀ w ∈ gT, w.before _ s = true := fun w h => hts0 w (List.mem_cons_of_mem _ h)
  have hown : s.vm.findClass R_La = some m.cls := findClass_of_methodNamed B.named
  have hlocks := B.notSynchronized
  have htb : c.exceptionTable.toList = tableOf ([((0 : Nat), (11 : Nat), (14 : Nat), (13 : Nat))]) := vx_table (x := y_La_write) B (hts0 _ List.mem_cons_self)
  subst hsz
  have hD := hD0.self (sz := s.heap.size)
  generalize hAe : va_A [(hx_, .inr (4, [.ref hp, .ref hst, .ref hd, .ref hfa])), (hd, .inr (0, [.int (iZ n), .ref hy])), (hy, .inl (cB, 4096, .inl (aI Y))), (ho, .inl (cL, 1, .inr (.inl (aL O))))] s.heap.size = A at hD hXK ⊢
  have hA : ∀ q : Nat, s.heap.size ≤ q → A q := fun q h => by rw [← hAe]; exact Or.inr h
  obtain ⟨H, hH⟩ : ∃ H, s.heap = H := ⟨_, rfl⟩
  have hS : va_S A s.heap H [] := by rw [← hH]; exact va_S.rf
  rw [hH] at hP
  rw [hH]
  have hl := lv_entry ([.ref hx_, .int (iZ a), .long v, .ref ho]) (n := 6) (Nat.le_of_ble_eq_true rfl)
  rw [lg_entry_eq]
  generalize (lg_sl ([.ref hx_, .int (iZ a), .long v, .ref ho]) ++ List.replicate (6 - (lg_sl ([.ref hx_, .int (iZ a), .long v, .ref ho])).length) Slot.unset).toArray = ls at hl ⊢
  have hl : lv_has ls 6 [(0, .ref hx_), (1, .int (iZ a)), (2, .long v), (4, .ref ho)] := hl
  refine lv_aload hx hb d_La_write_0 (lv_at hl 3 rfl) ?_
  refine lv_iconst (v := iZ (0)) hx hb d_La_write_2 rfl ?_
  refine lv_aload_n hx hb d_La_write_3 rfl (lv_at hl 0 rfl) ?_
  refine lv_iload_n hx hb d_La_write_4 rfl (lv_at hl 1 rfl) ?_
  refine lv_lload_n hx hb d_La_write_5 rfl (lv_at hl 2 rfl) ?_
  refine zx_i (w1 := fun (u_6 : (Int → Int32) × Int) => [(hx_, .inr (4, [.ref hp, .ref hst, .ref hd, .ref hfa])), (hd, .inr (0, [.int (iZ u_6.2), .ref hy])), (hy, .inl (cB, 4096, .inl (aI u_6.1)))]) (wr := [(ho, .inl (cL, 1, .inr (.inl (aL O))))]) (vx_runV (As := [.int (iZ a), .long v]) (rest := [.int (iZ 0), .ref ho]) ⟨hx, hb, hml, hown, hts⟩ (c_DotSheet_write l hnt dC dI sa hx_ hst hd hfa hp hy cB n Y dr a v H.size (by first | omega | assumption) (by first | omega | assumption) (by first | omega | assumption) (by first | omega | assumption) (by first | omega | assumption)) (cwV 2 hts (gV t_241 t_242 t_243 t_1 t_244) rfl rfl rfl (by decide +kernel) ⟨Nat.le_of_ble_eq_true rfl, Nat.le_of_ble_eq_true rfl⟩) ⟨zPx_blind, va_recv hK hP (ci := 4) (q0 := 0) rfl rfl, zPx_pre hP hD hK hXK hS hA [0, 1, 2] [0] rfl rfl rfl rfl⟩ rfl rfl hl.1 rfl (lv_room (Nat.le_of_ble_eq_true rfl)) d_La_write_6 ⟨Nat.le_of_ble_eq_true rfl, Nat.le_of_ble_eq_true rfl⟩) hP hD hS hA [0, 1, 2] [3] rfl rfl rfl (by decide) (fun E_ ce_ q9_ H locs x_6 hP hD hS hce hcv hcl => ?_) (fun r_6 u_6 H locs q_6 hP hD hS => ?_)
  · have hP : va_P (dC, dI) vwCl [(ho, .inl (cL, 1, .inr (.inl (aL O)))), (hx_, .inr (4, [.ref hp, .ref hst, .ref hd, .ref hfa])), (hd, .inr (0, [.int (iZ n), .ref hy])), (hy, .inl (cB, 4096, .inl (aI Y)))] H := hP
    have hD : va_D A [(ho, .inl (cL, 1, .inr (.inl (aL O)))), (hx_, .inr (4, [.ref hp, .ref hst, .ref hd, .ref hfa])), (hd, .inr (0, [.int (iZ n), .ref hy])), (hy, .inl (cB, 4096, .inl (aI Y)))] := hD
    obtain ⟨rfl, x_6⟩ := x_6
    refine vx_catch (own := R_La) (name := "java/lang/IllegalArgumentException") hown [] ⟨0, 11, 14, 13⟩ [] htb (fun z hz => nomatch hz) (by decide) (by decide) (hts _ t_146) (va_Nw.use rfl (hXK.1 _ xc_A)) hce hcv hcl ?_
    refine lv_astore (lv' := [(5, .ref q9_), (0, .ref hx_), (1, .int (iZ a)), (2, .long v), (4, .ref ho)]) hx hb d_La_write_14 hl (by decide) rfl (fun ls hl => ?_)
    refine lv_iconst (v := iZ (1)) hx hb d_La_write_16 rfl ?_
    have hP := hP.sub (ws' := [(hx_, .inr (4, [.ref hp, .ref hst, .ref hd, .ref hfa])), (hd, .inr (0, [.int (iZ n), .ref hy])), (hy, .inl (cB, 4096, .inl (aI Y))), (ho, .inl (cL, 1, .inr (.inl (aL O))))]) [1, 2, 3, 0] rfl
    have hD := hD.sub (ws' := [(hx_, .inr (4, [.ref hp, .ref hst, .ref hd, .ref hfa])), (hd, .inr (0, [.int (iZ n), .ref hy])), (hy, .inl (cB, 4096, .inl (aI Y))), (ho, .inl (cL, 1, .inr (.inl (aL O))))]) [1, 2, 3, 0] (by decide) rfl
    exact W.iret hx hb hr (fun t9_ ht hW => ⟨⟨_, ((n, Y, O)), rfl, ⟨1, rfl, Or.inr ⟨⟨rfl, x_6⟩, rfl, rfl⟩⟩, by rw [ht]; exact hP, va_K.moved hW.alike hK, hD⟩, hS.F ht⟩) hS.2.2 d_La_write_17
  have hP : va_P (dC, dI) vwCl [(ho, .inl (cL, 1, .inr (.inl (aL O)))), (hx_, .inr (4, [.ref hp, .ref hst, .ref hd, .ref hfa])), (hd, .inr (0, [.int (iZ u_6.2), .ref hy])), (hy, .inl (cB, 4096, .inl (aI u_6.1)))] H := hP
  have hD : va_D A [(ho, .inl (cL, 1, .inr (.inl (aL O)))), (hx_, .inr (4, [.ref hp, .ref hst, .ref hd, .ref hfa])), (hd, .inr (0, [.int (iZ u_6.2), .ref hy])), (hy, .inl (cB, 4096, .inl (aI u_6.1)))] := hD
  obtain ⟨rfl, q_6⟩ := q_6
  refine lv_i2l hx hb d_La_write_9 rfl ?_
  refine z_last hx hb hK hP hD hS 0 1 rfl rfl (by omega) (by omega) (by omega) d_La_write_10 (fun H locs hP hD hS => ?_)
  have hP : va_P (dC, dI) vwCl [(ho, .inl (cL, 1, .inr (.inl (aL (upZ O 0 ((iZ (if n + a ≤ 4096 then n + a else -1)).toInt64)))))), (hx_, .inr (4, [.ref hp, .ref hst, .ref hd, .ref hfa])), (hd, .inr (0, [.int (iZ u_6.2), .ref hy])), (hy, .inl (cB, 4096, .inl (aI u_6.1)))] H := hP
  have hD : va_D A [(ho, .inl (cL, 1, .inr (.inl (aL (upZ O 0 ((iZ (if n + a ≤ 4096 then n + a else -1)).toInt64)))))), (hx_, .inr (4, [.ref hp, .ref hst, .ref hd, .ref hfa])), (hd, .inr (0, [.int (iZ u_6.2), .ref hy])), (hy, .inl (cB, 4096, .inl (aI u_6.1)))] := hD
  refine lv_goto (tgt := 18) hx hb d_La_write_11 (by decide) ?_
  refine lv_iconst (v := iZ (0)) hx hb d_La_write_18 rfl ?_
  have hP := hP.sub (ws' := [(hx_, .inr (4, [.ref hp, .ref hst, .ref hd, .ref hfa])), (hd, .inr (0, [.int (iZ u_6.2), .ref hy])), (hy, .inl (cB, 4096, .inl (aI u_6.1))), (ho, .inl (cL, 1, .inr (.inl (aL (upZ O 0 ((iZ (if n + a ≤ 4096 then n + a else -1)).toInt64))))))]) [1, 2, 3, 0] rfl
  have hD := hD.sub (ws' := [(hx_, .inr (4, [.ref hp, .ref hst, .ref hd, .ref hfa])), (hd, .inr (0, [.int (iZ u_6.2), .ref hy])), (hy, .inl (cB, 4096, .inl (aI u_6.1))), (ho, .inl (cL, 1, .inr (.inl (aL (upZ O 0 ((iZ (if n + a ≤ 4096 then n + a else -1)).toInt64))))))]) [1, 2, 3, 0] (by decide) rfl
  exact W.iret hx hb hr (fun t9_ ht hW => ⟨⟨_, ((u_6.2, u_6.1, upZ O 0 ((iZ (if n + a ≤ 4096 then n + a else -1)).toInt64))), rfl, ⟨0, rfl, Or.inl ⟨rfl, _, u_6, ⟨rfl, q_6⟩, rfl, rfl, upZ_s O 0 ((iZ (if n + a ≤ 4096 then n + a else -1)).toInt64)⟩⟩, by rw [ht]; exact hP, va_K.moved hW.alike hK, hD⟩, hS.F ht⟩) hS.2.2 d_La_write_19
theorem d_La_frame_0 : decode c_yLa_frame 0 = .ok (.aload 6, 2) := by decide +kernel
theorem d_La_frame_2 : decode c_yLa_frame 2 = .ok (.iconst 0, 1) := by decide +kernel
theorem d_La_frame_3 : decode c_yLa_frame 3 = .ok (.aload_n 0, 1) := by decide +kernel
theorem d_La_frame_4 : decode c_yLa_frame 4 = .ok (.iload_n 1, 1) := by decide +kernel
theorem d_La_frame_5 : decode c_yLa_frame 5 = .ok (.iload_n 2, 1) := by decide +kernel
theorem d_La_frame_6 : decode c_yLa_frame 6 = .ok (.iload_n 3, 1) := by decide +kernel
theorem d_La_frame_7 : decode c_yLa_frame 7 = .ok (.iload 4, 2) := by decide +kernel
theorem d_La_frame_9 : decode c_yLa_frame 9 = .ok (.iload 5, 2) := by decide +kernel
theorem d_La_frame_11 : decode c_yLa_frame 11 = .ok (.invokevirtual 23, 3) := by decide +kernel
theorem d_La_frame_14 : decode c_yLa_frame 14 = .ok (.i2l, 1) := by decide +kernel
theorem d_La_frame_15 : decode c_yLa_frame 15 = .ok (.lastore, 1) := by decide +kernel
theorem d_La_frame_16 : decode c_yLa_frame 16 = .ok (.goto 7, 3) := by decide +kernel
theorem d_La_frame_19 : decode c_yLa_frame 19 = .ok (.astore 7, 2) := by decide +kernel
theorem d_La_frame_21 : decode c_yLa_frame 21 = .ok (.iconst 1, 1) := by decide +kernel
theorem d_La_frame_22 : decode c_yLa_frame 22 = .ok (.ireturn, 1) := by decide +kernel
theorem d_La_frame_23 : decode c_yLa_frame 23 = .ok (.iconst 0, 1) := by decide +kernel
theorem d_La_frame_24 : decode c_yLa_frame 24 = .ok (.ireturn, 1) := by decide +kernel
set_option maxHeartbeats 4000000 in
set_option maxRecDepth 100000 in
theorem c_Law_frame (l : Launch) (hnt : l.stackTraces = false) (dC : Nat → ClassId) (dI : Nat → Nat → Nat) (sa : Nat → Nat) (hx_ hst hd hfa hp hw hs hk : Nat) (cL : ClassId) (w h mn : Int) (G : Int → Int64) (pic : Int → Int → Bool) (x y bw bh t : Int) (ho : Nat) (O : Int → Int64) (sz : Nat) (w1 : 1 ≤ w) (w2 : w ≤ 1024) (h1 : 1 ≤ h) (h2 : h ≤ 1024) (mn1 : 0 ≤ mn) (mn2 : mn ≤ 2) (hR : Rep G pic) (x1 : -2147483648 ≤ x) (y1 : -2147483648 ≤ y) (bw1 : -2147483648 ≤ bw) (bh1 : -2147483648 ≤ bh) (t1 : -2147483648 ≤ t) (x2 : x ≤ 2147483647) (y2 : y ≤ 2147483647) (bw2 : bw ≤ 2147483647) (bh2 : bh ≤ 2147483647) (t2 : t ≤ 2147483647) : Met l y_La_frame w_La_frame ({ frames := 9, cells := 2, slots := 12, locals := 172 }) (va_Pc [.ref hx_, .int (iZ x), .int (iZ y), .int (iZ bw), .int (iZ bh), .int (iZ t), .ref ho] (zPy (dC, dI) vwCl [(hx_, .inr (4, [.ref hp, .ref hst, .ref hd, .ref hfa])), (hp, .inr (2, [.int (iZ w), .int (iZ h), .int (iZ mn), .ref hw, .ref hs, .ref hk])), (hw, .inl (cL, 16384, .inr (.inl (aL G)))), (ho, .inl (cL, 1, .inr (.inl (aL O))))] [(cL, .long)] sz sa)) (va_Qi (fun (r : Int32) (u : (Int → Int64) × (Int → Int64)) => ∃ k : Int, r = iZ k ∧ ((k = 0 ∧ ∃ (r9 : Int32) (u9 : Int → Int64), (r9 = iZ (cnt w h (frB x y bw bh t)) ∧ (-4096 ≤ x ∧ x ≤ 4096 ∧ -4096 ≤ y ∧ y ≤ 4096 ∧ 1 ≤ bw ∧ bw ≤ 2048 ∧ 1 ≤ bh ∧ bh ≤ 2048 ∧ 1 ≤ t ∧ t ≤ 200) ∧ Rep u9 (drw mn (fun px py => onB w h px py && frB x y bw bh t px py) pic)) ∧ u.1 = u9 ∧ u.2 0 = r9.toInt64) ∨ ((k = 1 ∧ ¬ (-4096 ≤ x ∧ x ≤ 4096 ∧ -4096 ≤ y ∧ y ≤ 4096 ∧ 1 ≤ bw ∧ bw ≤ 2048 ∧ 1 ≤ bh ∧ bh ≤ 2048 ∧ 1 ≤ t ∧ t ≤ 200)) ∧ u.1 = G))) (fun u => zB (dC, dI) vwCl [(cL, .long)] (va_A [(hx_, .inr (4, [.ref hp, .ref hst, .ref hd, .ref hfa])), (hp, .inr (2, [.int (iZ w), .int (iZ h), .int (iZ mn), .ref hw, .ref hs, .ref hk])), (hw, .inl (cL, 16384, .inr (.inl (aL G)))), (ho, .inl (cL, 1, .inr (.inl (aL O))))] sz) [(hx_, .inr (4, [.ref hp, .ref hst, .ref hd, .ref hfa])), (hp, .inr (2, [.int (iZ w), .int (iZ h), .int (iZ mn), .ref hw, .ref hs, .ref hk])), (hw, .inl (cL, 16384, .inr (.inl (aL u.1)))), (ho, .inl (cL, 1, .inr (.inl (aL u.2))))]) (va_A [(hx_, .inr (4, [.ref hp, .ref hst, .ref hd, .ref hfa])), (hp, .inr (2, [.int (iZ w), .int (iZ h), .int (iZ mn), .ref hw, .ref hs, .ref hk])), (hw, .inl (cL, 16384, .inr (.inl (aL G)))), (ho, .inl (cL, 1, .inr (.inl (aL O))))] sz)) 2 12 (va_A [(hx_, .inr (4, [.ref hp, .ref hst, .ref hd, .ref hfa])), (hp, .inr (2, [.int (iZ w), .int (iZ h), .int (iZ mn), .ref hw, .ref hs, .ref hk])), (hw, .inl (cL, 16384, .inr (.inl (aL G)))), (ho, .inl (cL, 1, .inr (.inl (aL O))))] sz) := by
  refine va_MetW (cc := c_yLa_frame) (maxL := 8) (ret := (some .int)) (hh := [((0 : Nat), (16 : Nat), (19 : Nat), (13 : Nat))]) (by decide) rfl ?_
  intro p e s m args below meth c s₁ B hml hv
  obtain ⟨rfl, ⟨hsz, hP, hK, hD0, hXK⟩, hyN⟩ := hv
  have hx := B.exec
  have hb := B.bytes
  have hr := B.returns
  have hts0 := atoms_spec (ws := w_La_frame) B.pre
  have hts : ∀ w ∈ gT, w.before _ s = true := fun w h => hts0 w (List.mem_cons_of_mem _ h)
  have hown : s.vm.findClass R_La = some m.cls := findClass_of_methodNamed B.named
  have hlocks := B.notSynchronized
  have htb : c.exceptionTable.toList = tableOf ([((0 : Nat), (16 : Nat), (19 : Nat), (13 : Nat))]) := vx_table (x := y_La_frame) B (hts0 _ List.mem_cons_self)
  subst hsz
  have hD := hD0.self (sz := s.heap.size)
  generalize hAe : va_A [(hx_, .inr (4, [.ref hp, .ref hst, .ref hd, .ref hfa])), (hp, .inr (2, [.int (iZ w), .int (iZ h), .int (iZ mn), .ref hw, .ref hs, .ref hk])), (hw, .inl (cL, 16384, .inr (.inl (aL G)))), (ho, .inl (cL, 1, .inr (.inl (aL O))))] s.heap.size = A at hD hXK ⊢
  have hA : ∀ q : Nat, s.heap.size ≤ q → A q := fun q h => by rw [← hAe]; exact Or.inr h
  obtain ⟨H, hH⟩ : ∃ H, s.heap = H := ⟨_, rfl⟩
  have hS : va_S A s.heap H [] := by rw [← hH]; exact va_S.rf
  rw [hH] at hP
  rw [hH]
  have hl := lv_entry ([.ref hx_, .int (iZ x), .int (iZ y), .int (iZ bw), .int (iZ bh), .int (iZ t), .ref ho]) (n := 8) (Nat.le_of_ble_eq_true rfl)
  rw [lg_entry_eq]
  generalize (lg_sl ([.ref hx_, .int (iZ x), .int (iZ y), .int (iZ bw), .int (iZ bh), .int (iZ t), .ref ho]) ++ List.replicate (8 - (lg_sl ([.ref hx_, .int (iZ x), .int (iZ y), .int (iZ bw), .int (iZ bh), .int (iZ t), .ref ho])).length) Slot.unset).toArray = ls at hl ⊢
  have hl : lv_has ls 8 [(0, .ref hx_), (1, .int (iZ x)), (2, .int (iZ y)), (3, .int (iZ bw)), (4, .int (iZ bh)), (5, .int (iZ t)), (6, .ref ho)] := hl
  refine lv_aload hx hb d_La_frame_0 (lv_at hl 6 rfl) ?_
  refine lv_iconst (v := iZ (0)) hx hb d_La_frame_2 rfl ?_
  refine lv_aload_n hx hb d_La_frame_3 rfl (lv_at hl 0 rfl) ?_
  refine lv_iload_n hx hb d_La_frame_4 rfl (lv_at hl 1 rfl) ?_
  refine lv_iload_n hx hb d_La_frame_5 rfl (lv_at hl 2 rfl) ?_
  refine lv_iload_n hx hb d_La_frame_6 rfl (lv_at hl 3 rfl) ?_
  refine lv_iload hx hb d_La_frame_7 (lv_at hl 4 rfl) ?_
  refine lv_iload hx hb d_La_frame_9 (lv_at hl 5 rfl) ?_
  refine zx_i (w1 := fun (u_11 : Int → Int64) => [(hx_, .inr (4, [.ref hp, .ref hst, .ref hd, .ref hfa])), (hp, .inr (2, [.int (iZ w), .int (iZ h), .int (iZ mn), .ref hw, .ref hs, .ref hk])), (hw, .inl (cL, 16384, .inr (.inl (aL u_11))))]) (wr := [(ho, .inl (cL, 1, .inr (.inl (aL O))))]) (vx_runV (As := [.int (iZ x), .int (iZ y), .int (iZ bw), .int (iZ bh), .int (iZ t)]) (rest := [.int (iZ 0), .ref ho]) ⟨hx, hb, hml, hown, hts⟩ (c_DotSheet_frame l hnt dC dI sa hx_ hst hd hfa hp hw hs hk cL w h mn G pic x y bw bh t H.size (by first | omega | assumption) (by first | omega | assumption) (by first | omega | assumption) (by first | omega | assumption) (by first | omega | assumption) (by first | omega | assumption) (by first | omega | assumption) (by first | omega | assumption) (by first | omega | assumption) (by first | omega | assumption) (by first | omega | assumption) (by first | omega | assumption) (by first | omega | assumption) (by first | omega | assumption) (by first | omega | assumption) (by first | omega | assumption) (by first | omega | assumption)) (cwV 5 hts (gV t_252 t_253 t_254 t_1 t_255) rfl rfl rfl (by decide +kernel) ⟨Nat.le_of_ble_eq_true rfl, Nat.le_of_ble_eq_true rfl⟩) ⟨zPx_blind, va_recv hK hP (ci := 4) (q0 := 0) rfl rfl, zPx_pre hP hD hK hXK hS hA [0, 1, 2] [0] rfl rfl rfl rfl⟩ rfl rfl hl.1 rfl (lv_room (Nat.le_of_ble_eq_true rfl)) d_La_frame_11 ⟨Nat.le_of_ble_eq_true rfl, Nat.le_of_ble_eq_true rfl⟩) hP hD hS hA [0, 1, 2] [3] rfl rfl rfl (by decide) (fun E_ ce_ q9_ H locs x_11 hP hD hS hce hcv hcl => ?_) (fun r_11 u_11 H locs q_11 hP hD hS => ?_)
  · have hP : va_P (dC, dI) vwCl [(ho, .inl (cL, 1, .inr (.inl (aL O)))), (hx_, .inr (4, [.ref hp, .ref hst, .ref hd, .ref hfa])), (hp, .inr (2, [.int (iZ w), .int (iZ h), .int (iZ mn), .ref hw, .ref hs, .ref hk])), (hw, .inl (cL, 16384, .inr (.inl (aL G))))] H := hP
    have hD : va_D A [(ho, .inl (cL, 1, .inr (.inl (aL O)))), (hx_, .inr (4, [.ref hp, .ref hst, .ref hd, .ref hfa])), (hp, .inr (2, [.int (iZ w), .int (iZ h), .int (iZ mn), .ref hw, .ref hs, .ref hk])), (hw, .inl (cL, 16384, .inr (.inl (aL G))))] := hD
    obtain ⟨rfl, x_11⟩ := x_11
    refine vx_catch (own := R_La) (name := "java/lang/IllegalArgumentException") hown [] ⟨0, 16, 19, 13⟩ [] htb (fun z hz => nomatch hz) (by decide) (by decide) (hts _ t_146) (va_Nw.use rfl (hXK.1 _ xc_A)) hce hcv hcl ?_
    refine lv_astore (lv' := [(7, .ref q9_), (0, .ref hx_), (1, .int (iZ x)), (2, .int (iZ y)), (3, .int (iZ bw)), (4, .int (iZ bh)), (5, .int (iZ t)), (6, .ref ho)]) hx hb d_La_frame_19 hl (by decide) rfl (fun ls hl => ?_)
    refine lv_iconst (v := iZ (1)) hx hb d_La_frame_21 rfl ?_
    have hP := hP.sub (ws' := [(hx_, .inr (4, [.ref hp, .ref hst, .ref hd, .ref hfa])), (hp, .inr (2, [.int (iZ w), .int (iZ h), .int (iZ mn), .ref hw, .ref hs, .ref hk])), (hw, .inl (cL, 16384, .inr (.inl (aL G)))), (ho, .inl (cL, 1, .inr (.inl (aL O))))]) [1, 2, 3, 0] rfl
    have hD := hD.sub (ws' := [(hx_, .inr (4, [.ref hp, .ref hst, .ref hd, .ref hfa])), (hp, .inr (2, [.int (iZ w), .int (iZ h), .int (iZ mn), .ref hw, .ref hs, .ref hk])), (hw, .inl (cL, 16384, .inr (.inl (aL G)))), (ho, .inl (cL, 1, .inr (.inl (aL O))))]) [1, 2, 3, 0] (by decide) rfl
    exact W.iret hx hb hr (fun t9_ ht hW => ⟨⟨_, ((G, O)), rfl, ⟨1, rfl, Or.inr ⟨⟨rfl, x_11⟩, rfl⟩⟩, by rw [ht]; exact hP, va_K.moved hW.alike hK, hD⟩, hS.F ht⟩) hS.2.2 d_La_frame_22
  have hP : va_P (dC, dI) vwCl [(ho, .inl (cL, 1, .inr (.inl (aL O)))), (hx_, .inr (4, [.ref hp, .ref hst, .ref hd, .ref hfa])), (hp, .inr (2, [.int (iZ w), .int (iZ h), .int (iZ mn), .ref hw, .ref hs, .ref hk])), (hw, .inl (cL, 16384, .inr (.inl (aL u_11))))] H := hP
  have hD : va_D A [(ho, .inl (cL, 1, .inr (.inl (aL O)))), (hx_, .inr (4, [.ref hp, .ref hst, .ref hd, .ref hfa])), (hp, .inr (2, [.int (iZ w), .int (iZ h), .int (iZ mn), .ref hw, .ref hs, .ref hk])), (hw, .inl (cL, 16384, .inr (.inl (aL u_11))))] := hD
  obtain ⟨rfl, q_11⟩ := q_11
  refine lv_i2l hx hb d_La_frame_14 rfl ?_
  refine z_last hx hb hK hP hD hS 0 0 rfl rfl (by omega) (by omega) (by omega) d_La_frame_15 (fun H locs hP hD hS => ?_)
  have hP : va_P (dC, dI) vwCl [(ho, .inl (cL, 1, .inr (.inl (aL (upZ O 0 ((iZ (cnt w h (frB x y bw bh t))).toInt64)))))), (hx_, .inr (4, [.ref hp, .ref hst, .ref hd, .ref hfa])), (hp, .inr (2, [.int (iZ w), .int (iZ h), .int (iZ mn), .ref hw, .ref hs, .ref hk])), (hw, .inl (cL, 16384, .inr (.inl (aL u_11))))] H := hP
  have hD : va_D A [(ho, .inl (cL, 1, .inr (.inl (aL (upZ O 0 ((iZ (cnt w h (frB x y bw bh t))).toInt64)))))), (hx_, .inr (4, [.ref hp, .ref hst, .ref hd, .ref hfa])), (hp, .inr (2, [.int (iZ w), .int (iZ h), .int (iZ mn), .ref hw, .ref hs, .ref hk])), (hw, .inl (cL, 16384, .inr (.inl (aL u_11))))] := hD
  refine lv_goto (tgt := 23) hx hb d_La_frame_16 (by decide) ?_
  refine lv_iconst (v := iZ (0)) hx hb d_La_frame_23 rfl ?_
  have hP := hP.sub (ws' := [(hx_, .inr (4, [.ref hp, .ref hst, .ref hd, .ref hfa])), (hp, .inr (2, [.int (iZ w), .int (iZ h), .int (iZ mn), .ref hw, .ref hs, .ref hk])), (hw, .inl (cL, 16384, .inr (.inl (aL u_11)))), (ho, .inl (cL, 1, .inr (.inl (aL (upZ O 0 ((iZ (cnt w h (frB x y bw bh t))).toInt64))))))]) [1, 2, 3, 0] rfl
  have hD := hD.sub (ws' := [(hx_, .inr (4, [.ref hp, .ref hst, .ref hd, .ref hfa])), (hp, .inr (2, [.int (iZ w), .int (iZ h), .int (iZ mn), .ref hw, .ref hs, .ref hk])), (hw, .inl (cL, 16384, .inr (.inl (aL u_11)))), (ho, .inl (cL, 1, .inr (.inl (aL (upZ O 0 ((iZ (cnt w h (frB x y bw bh t))).toInt64))))))]) [1, 2, 3, 0] (by decide) rfl
  exact W.iret hx hb hr (fun t9_ ht hW => ⟨⟨_, ((u_11, upZ O 0 ((iZ (cnt w h (frB x y bw bh t))).toInt64))), rfl, ⟨0, rfl, Or.inl ⟨rfl, _, u_11, ⟨rfl, q_11⟩, rfl, upZ_s O 0 ((iZ (cnt w h (frB x y bw bh t))).toInt64)⟩⟩, by rw [ht]; exact hP, va_K.moved hW.alike hK, hD⟩, hS.F ht⟩) hS.2.2 d_La_frame_24
theorem d_La_line_0 : decode c_yLa_line 0 = .ok (.aload 6, 2) := by decide +kernel
theorem d_La_line_2 : decode c_yLa_line 2 = .ok (.iconst 0, 1) := by decide +kernel
theorem d_La_line_3 : decode c_yLa_line 3 = .ok (.aload_n 0, 1) := by decide +kernel
theorem d_La_line_4 : decode c_yLa_line 4 = .ok (.iload_n 1, 1) := by decide +kernel
theorem d_La_line_5 : decode c_yLa_line 5 = .ok (.iload_n 2, 1) := by decide +kernel
theorem d_La_line_6 : decode c_yLa_line 6 = .ok (.iload_n 3, 1) := by decide +kernel
theorem d_La_line_7 : decode c_yLa_line 7 = .ok (.iload 4, 2) := by decide +kernel
theorem d_La_line_9 : decode c_yLa_line 9 = .ok (.iload 5, 2) := by decide +kernel
theorem d_La_line_11 : decode c_yLa_line 11 = .ok (.invokevirtual 27, 3) := by decide +kernel
theorem d_La_line_14 : decode c_yLa_line 14 = .ok (.i2l, 1) := by decide +kernel
theorem d_La_line_15 : decode c_yLa_line 15 = .ok (.lastore, 1) := by decide +kernel
theorem d_La_line_16 : decode c_yLa_line 16 = .ok (.goto 7, 3) := by decide +kernel
theorem d_La_line_19 : decode c_yLa_line 19 = .ok (.astore 7, 2) := by decide +kernel
theorem d_La_line_21 : decode c_yLa_line 21 = .ok (.iconst 1, 1) := by decide +kernel
theorem d_La_line_22 : decode c_yLa_line 22 = .ok (.ireturn, 1) := by decide +kernel
theorem d_La_line_23 : decode c_yLa_line 23 = .ok (.iconst 0, 1) := by decide +kernel
theorem d_La_line_24 : decode c_yLa_line 24 = .ok (.ireturn, 1) := by decide +kernel
set_option maxHeartbeats 4000000 in
set_option maxRecDepth 100000 in
theorem c_Law_line (l : Launch) (hnt : l.stackTraces = false) (dC : Nat → ClassId) (dI : Nat → Nat → Nat) (sa : Nat → Nat) (hx_ hst hd hfa hp hw hs hk : Nat) (cL : ClassId) (w h mn : Int) (G : Int → Int64) (pic : Int → Int → Bool) (a b c0 d t : Int) (ho : Nat) (O : Int → Int64) (sz : Nat) (w1 : 1 ≤ w) (w2 : w ≤ 1024) (h1 : 1 ≤ h) (h2 : h ≤ 1024) (mn1 : 0 ≤ mn) (mn2 : mn ≤ 2) (hR : Rep G pic) (a1 : -2147483648 ≤ a) (b1 : -2147483648 ≤ b) (c01 : -2147483648 ≤ c0) (d1 : -2147483648 ≤ d) (t1 : -2147483648 ≤ t) (a2 : a ≤ 2147483647) (b2 : b ≤ 2147483647) (c02 : c0 ≤ 2147483647) (d2 : d ≤ 2147483647) (t2 : t ≤ 2147483647) : Met l y_La_line w_La_line ({ frames := 8, cells := 2, slots := 17, locals := 150 }) (va_Pc [.ref hx_, .int (iZ a), .int (iZ b), .int (iZ c0), .int (iZ d), .int (iZ t), .ref ho] (zPy (dC, dI) vwCl [(hx_, .inr (4, [.ref hp, .ref hst, .ref hd, .ref hfa])), (hp, .inr (2, [.int (iZ w), .int (iZ h), .int (iZ mn), .ref hw, .ref hs, .ref hk])), (hw, .inl (cL, 16384, .inr (.inl (aL G)))), (ho, .inl (cL, 1, .inr (.inl (aL O))))] [(cL, .long)] sz sa)) (va_Qi (fun (r : Int32) (u : (Int → Int64) × (Int → Int64)) => ∃ k : Int, r = iZ k ∧ ((k = 0 ∧ ∃ (r9 : Int32) (u9 : Int → Int64), (r9 = iZ (cnt w h (lnD a b c0 d t)) ∧ (-4096 ≤ a ∧ a ≤ 4096 ∧ -4096 ≤ b ∧ b ≤ 4096 ∧ -4096 ≤ c0 ∧ c0 ≤ 4096 ∧ -4096 ≤ d ∧ d ≤ 4096 ∧ 1 ≤ t ∧ t ≤ 200) ∧ Rep u9 (drw mn (fun px py => onB w h px py && lnD a b c0 d t px py) pic)) ∧ u.1 = u9 ∧ u.2 0 = r9.toInt64) ∨ ((k = 1 ∧ ¬ (-4096 ≤ a ∧ a ≤ 4096 ∧ -4096 ≤ b ∧ b ≤ 4096 ∧ -4096 ≤ c0 ∧ c0 ≤ 4096 ∧ -4096 ≤ d ∧ d ≤ 4096 ∧ 1 ≤ t ∧ t ≤ 200)) ∧ u.1 = G))) (fun u => zB (dC, dI) vwCl [(cL, .long)] (va_A [(hx_, .inr (4, [.ref hp, .ref hst, .ref hd, .ref hfa])), (hp, .inr (2, [.int (iZ w), .int (iZ h), .int (iZ mn), .ref hw, .ref hs, .ref hk])), (hw, .inl (cL, 16384, .inr (.inl (aL G)))), (ho, .inl (cL, 1, .inr (.inl (aL O))))] sz) [(hx_, .inr (4, [.ref hp, .ref hst, .ref hd, .ref hfa])), (hp, .inr (2, [.int (iZ w), .int (iZ h), .int (iZ mn), .ref hw, .ref hs, .ref hk])), (hw, .inl (cL, 16384, .inr (.inl (aL u.1)))), (ho, .inl (cL, 1, .inr (.inl (aL u.2))))]) (va_A [(hx_, .inr (4, [.ref hp, .ref hst, .ref hd, .ref hfa])), (hp, .inr (2, [.int (iZ w), .int (iZ h), .int (iZ mn), .ref hw, .ref hs, .ref hk])), (hw, .inl (cL, 16384, .inr (.inl (aL G)))), (ho, .inl (cL, 1, .inr (.inl (aL O))))] sz)) 2 17 (va_A [(hx_, .inr (4, [.ref hp, .ref hst, .ref hd, .ref hfa])), (hp, .inr (2, [.int (iZ w), .int (iZ h), .int (iZ mn), .ref hw, .ref hs, .ref hk])), (hw, .inl (cL, 16384, .inr (.inl (aL G)))), (ho, .inl (cL, 1, .inr (.inl (aL O))))] sz) := by
  refine va_MetW (cc := c_yLa_line) (maxL := 8) (ret := (some .int)) (hh := [((0 : Nat), (16 : Nat), (19 : Nat), (13 : Nat))]) (by decide) rfl ?_
  intro p e s m args below meth c s₁ B hml hv
  obtain ⟨rfl, ⟨hsz, hP, hK, hD0, hXK⟩, hyN⟩ := hv
  have hx := B.exec
  have hb := B.bytes
  have hr := B.returns
  have hts0 := atoms_spec (ws := w_La_line) B.pre
  have hts : ∀ w ∈ gT, w.before _ s = true := fun w h => hts0 w (List.mem_cons_of_mem _ h)
  have hown : s.vm.findClass R_La = some m.cls := findClass_of_methodNamed B.named
  have hlocks := B.notSynchronized
  have htb : c.exceptionTable.toList = tableOf ([((0 : Nat), (16 : Nat), (19 : Nat), (13 : Nat))]) := vx_table (x := y_La_line) B (hts0 _ List.mem_cons_self)
  subst hsz
  have hD := hD0.self (sz := s.heap.size)
  generalize hAe : va_A [(hx_, .inr (4, [.ref hp, .ref hst, .ref hd, .ref hfa])), (hp, .inr (2, [.int (iZ w), .int (iZ h), .int (iZ mn), .ref hw, .ref hs, .ref hk])), (hw, .inl (cL, 16384, .inr (.inl (aL G)))), (ho, .inl (cL, 1, .inr (.inl (aL O))))] s.heap.size = A at hD hXK ⊢
  have hA : ∀ q : Nat, s.heap.size ≤ q → A q := fun q h => by rw [← hAe]; exact Or.inr h
  obtain ⟨H, hH⟩ : ∃ H, s.heap = H := ⟨_, rfl⟩
  have hS : va_S A s.heap H [] := by rw [← hH]; exact va_S.rf
  rw [hH] at hP
  rw [hH]
  have hl := lv_entry ([.ref hx_, .int (iZ a), .int (iZ b), .int (iZ c0), .int (iZ d), .int (iZ t), .ref ho]) (n := 8) (Nat.le_of_ble_eq_true rfl)
  rw [lg_entry_eq]
  generalize (lg_sl ([.ref hx_, .int (iZ a), .int (iZ b), .int (iZ c0), .int (iZ d), .int (iZ t), .ref ho]) ++ List.replicate (8 - (lg_sl ([.ref hx_, .int (iZ a), .int (iZ b), .int (iZ c0), .int (iZ d), .int (iZ t), .ref ho])).length) Slot.unset).toArray = ls at hl ⊢
  have hl : lv_has ls 8 [(0, .ref hx_), (1, .int (iZ a)), (2, .int (iZ b)), (3, .int (iZ c0)), (4, .int (iZ d)), (5, .int (iZ t)), (6, .ref ho)] := hl
  refine lv_aload hx hb d_La_line_0 (lv_at hl 6 rfl) ?_
  refine lv_iconst (v := iZ (0)) hx hb d_La_line_2 rfl ?_
  refine lv_aload_n hx hb d_La_line_3 rfl (lv_at hl 0 rfl) ?_
  refine lv_iload_n hx hb d_La_line_4 rfl (lv_at hl 1 rfl) ?_
  refine lv_iload_n hx hb d_La_line_5 rfl (lv_at hl 2 rfl) ?_
  refine lv_iload_n hx hb d_La_line_6 rfl (lv_at hl 3 rfl) ?_
  refine lv_iload hx hb d_La_line_7 (lv_at hl 4 rfl) ?_
  refine lv_iload hx hb d_La_line_9 (lv_at hl 5 rfl) ?_
  refine zx_i (w1 := fun (u_11 : Int → Int64) => [(hx_, .inr (4, [.ref hp, .ref hst, .ref hd, .ref hfa])), (hp, .inr (2, [.int (iZ w), .int (iZ h), .int (iZ mn), .ref hw, .ref hs, .ref hk])), (hw, .inl (cL, 16384, .inr (.inl (aL u_11))))]) (wr := [(ho, .inl (cL, 1, .inr (.inl (aL O))))]) (vx_runV (As := [.int (iZ a), .int (iZ b), .int (iZ c0), .int (iZ d), .int (iZ t)]) (rest := [.int (iZ 0), .ref ho]) ⟨hx, hb, hml, hown, hts⟩ (c_DotSheet_line l hnt dC dI sa hx_ hst hd hfa hp hw hs hk cL w h mn G pic a b c0 d t H.size (by first | omega | assumption) (by first | omega | assumption) (by first | omega | assumption) (by first | omega | assumption) (by first | omega | assumption) (by first | omega | assumption) (by first | omega | assumption) (by first | omega | assumption) (by first | omega | assumption) (by first | omega | assumption) (by first | omega | assumption) (by first | omega | assumption) (by first | omega | assumption) (by first | omega | assumption) (by first | omega | assumption) (by first | omega | assumption) (by first | omega | assumption)) (cwV 5 hts (gV t_296 t_297 t_298 t_1 t_299) rfl rfl rfl (by decide +kernel) ⟨Nat.le_of_ble_eq_true rfl, Nat.le_of_ble_eq_true rfl⟩) ⟨zPx_blind, va_recv hK hP (ci := 4) (q0 := 0) rfl rfl, zPx_pre hP hD hK hXK hS hA [0, 1, 2] [0] rfl rfl rfl rfl⟩ rfl rfl hl.1 rfl (lv_room (Nat.le_of_ble_eq_true rfl)) d_La_line_11 ⟨Nat.le_of_ble_eq_true rfl, Nat.le_of_ble_eq_true rfl⟩) hP hD hS hA [0, 1, 2] [3] rfl rfl rfl (by decide) (fun E_ ce_ q9_ H locs x_11 hP hD hS hce hcv hcl => ?_) (fun r_11 u_11 H locs q_11 hP hD hS => ?_)
  · have hP : va_P (dC, dI) vwCl [(ho, .inl (cL, 1, .inr (.inl (aL O)))), (hx_, .inr (4, [.ref hp, .ref hst, .ref hd, .ref hfa])), (hp, .inr (2, [.int (iZ w), .int (iZ h), .int (iZ mn), .ref hw, .ref hs, .ref hk])), (hw, .inl (cL, 16384, .inr (.inl (aL G))))] H := hP
    have hD : va_D A [(ho, .inl (cL, 1, .inr (.inl (aL O)))), (hx_, .inr (4, [.ref hp, .ref hst, .ref hd, .ref hfa])), (hp, .inr (2, [.int (iZ w), .int (iZ h), .int (iZ mn), .ref hw, .ref hs, .ref hk])), (hw, .inl (cL, 16384, .inr (.inl (aL G))))] := hD
    obtain ⟨rfl, x_11⟩ := x_11
    refine vx_catch (own := R_La) (name := "java/lang/IllegalArgumentException") hown [] ⟨0, 16, 19, 13⟩ [] htb (fun z hz => nomatch hz) (by decide) (by decide) (hts _ t_146) (va_Nw.use rfl (hXK.1 _ xc_A)) hce hcv hcl ?_
    refine lv_astore (lv' := [(7, .ref q9_), (0, .ref hx_), (1, .int (iZ a)), (2, .int (iZ b)), (3, .int (iZ c0)), (4, .int (iZ d)), (5, .int (iZ t)), (6, .ref ho)]) hx hb d_La_line_19 hl (by decide) rfl (fun ls hl => ?_)
    refine lv_iconst (v := iZ (1)) hx hb d_La_line_21 rfl ?_
    have hP := hP.sub (ws' := [(hx_, .inr (4, [.ref hp, .ref hst, .ref hd, .ref hfa])), (hp, .inr (2, [.int (iZ w), .int (iZ h), .int (iZ mn), .ref hw, .ref hs, .ref hk])), (hw, .inl (cL, 16384, .inr (.inl (aL G)))), (ho, .inl (cL, 1, .inr (.inl (aL O))))]) [1, 2, 3, 0] rfl
    have hD := hD.sub (ws' := [(hx_, .inr (4, [.ref hp, .ref hst, .ref hd, .ref hfa])), (hp, .inr (2, [.int (iZ w), .int (iZ h), .int (iZ mn), .ref hw, .ref hs, .ref hk])), (hw, .inl (cL, 16384, .inr (.inl (aL G)))), (ho, .inl (cL, 1, .inr (.inl (aL O))))]) [1, 2, 3, 0] (by decide) rfl
    exact W.iret hx hb hr (fun t9_ ht hW => ⟨⟨_, ((G, O)), rfl, ⟨1, rfl, Or.inr ⟨⟨rfl, x_11⟩, rfl⟩⟩, by rw [ht]; exact hP, va_K.moved hW.alike hK, hD⟩, hS.F ht⟩) hS.2.2 d_La_line_22
  have hP : va_P (dC, dI) vwCl [(ho, .inl (cL, 1, .inr (.inl (aL O)))), (hx_, .inr (4, [.ref hp, .ref hst, .ref hd, .ref hfa])), (hp, .inr (2, [.int (iZ w), .int (iZ h), .int (iZ mn), .ref hw, .ref hs, .ref hk])), (hw, .inl (cL, 16384, .inr (.inl (aL u_11))))] H := hP
  have hD : va_D A [(ho, .inl (cL, 1, .inr (.inl (aL O)))), (hx_, .inr (4, [.ref hp, .ref hst, .ref hd, .ref hfa])), (hp, .inr (2, [.int (iZ w), .int (iZ h), .int (iZ mn), .ref hw, .ref hs, .ref hk])), (hw, .inl (cL, 16384, .inr (.inl (aL u_11))))] := hD
  obtain ⟨rfl, q_11⟩ := q_11
  refine lv_i2l hx hb d_La_line_14 rfl ?_
  refine z_last hx hb hK hP hD hS 0 0 rfl rfl (by omega) (by omega) (by omega) d_La_line_15 (fun H locs hP hD hS => ?_)
  have hP : va_P (dC, dI) vwCl [(ho, .inl (cL, 1, .inr (.inl (aL (upZ O 0 ((iZ (cnt w h (lnD a b c0 d t))).toInt64)))))), (hx_, .inr (4, [.ref hp, .ref hst, .ref hd, .ref hfa])), (hp, .inr (2, [.int (iZ w), .int (iZ h), .int (iZ mn), .ref hw, .ref hs, .ref hk])), (hw, .inl (cL, 16384, .inr (.inl (aL u_11))))] H := hP
  have hD : va_D A [(ho, .inl (cL, 1, .inr (.inl (aL (upZ O 0 ((iZ (cnt w h (lnD a b c0 d t))).toInt64)))))), (hx_, .inr (4, [.ref hp, .ref hst, .ref hd, .ref hfa])), (hp, .inr (2, [.int (iZ w), .int (iZ h), .int (iZ mn), .ref hw, .ref hs, .ref hk])), (hw, .inl (cL, 16384, .inr (.inl (aL u_11))))] := hD
  refine lv_goto (tgt := 23) hx hb d_La_line_16 (by decide) ?_
  refine lv_iconst (v := iZ (0)) hx hb d_La_line_23 rfl ?_
  have hP := hP.sub (ws' := [(hx_, .inr (4, [.ref hp, .ref hst, .ref hd, .ref hfa])), (hp, .inr (2, [.int (iZ w), .int (iZ h), .int (iZ mn), .ref hw, .ref hs, .ref hk])), (hw, .inl (cL, 16384, .inr (.inl (aL u_11)))), (ho, .inl (cL, 1, .inr (.inl (aL (upZ O 0 ((iZ (cnt w h (lnD a b c0 d t))).toInt64))))))]) [1, 2, 3, 0] rfl
  have hD := hD.sub (ws' := [(hx_, .inr (4, [.ref hp, .ref hst, .ref hd, .ref hfa])), (hp, .inr (2, [.int (iZ w), .int (iZ h), .int (iZ mn), .ref hw, .ref hs, .ref hk])), (hw, .inl (cL, 16384, .inr (.inl (aL u_11)))), (ho, .inl (cL, 1, .inr (.inl (aL (upZ O 0 ((iZ (cnt w h (lnD a b c0 d t))).toInt64))))))]) [1, 2, 3, 0] (by decide) rfl
  exact W.iret hx hb hr (fun t9_ ht hW => ⟨⟨_, ((u_11, upZ O 0 ((iZ (cnt w h (lnD a b c0 d t))).toInt64))), rfl, ⟨0, rfl, Or.inl ⟨rfl, _, u_11, ⟨rfl, q_11⟩, rfl, upZ_s O 0 ((iZ (cnt w h (lnD a b c0 d t))).toInt64)⟩⟩, by rw [ht]; exact hP, va_K.moved hW.alike hK, hD⟩, hS.F ht⟩) hS.2.2 d_La_line_24
theorem d_La_ellipse_0 : decode c_yLa_ellipse 0 = .ok (.aload 6, 2) := by decide +kernel
theorem d_La_ellipse_2 : decode c_yLa_ellipse 2 = .ok (.iconst 0, 1) := by decide +kernel
theorem d_La_ellipse_3 : decode c_yLa_ellipse 3 = .ok (.aload_n 0, 1) := by decide +kernel
theorem d_La_ellipse_4 : decode c_yLa_ellipse 4 = .ok (.iload_n 1, 1) := by decide +kernel
theorem d_La_ellipse_5 : decode c_yLa_ellipse 5 = .ok (.iload_n 2, 1) := by decide +kernel
theorem d_La_ellipse_6 : decode c_yLa_ellipse 6 = .ok (.iload_n 3, 1) := by decide +kernel
theorem d_La_ellipse_7 : decode c_yLa_ellipse 7 = .ok (.iload 4, 2) := by decide +kernel
theorem d_La_ellipse_9 : decode c_yLa_ellipse 9 = .ok (.iload 5, 2) := by decide +kernel
theorem d_La_ellipse_11 : decode c_yLa_ellipse 11 = .ok (.invokevirtual 30, 3) := by decide +kernel
theorem d_La_ellipse_14 : decode c_yLa_ellipse 14 = .ok (.i2l, 1) := by decide +kernel
theorem d_La_ellipse_15 : decode c_yLa_ellipse 15 = .ok (.lastore, 1) := by decide +kernel
theorem d_La_ellipse_16 : decode c_yLa_ellipse 16 = .ok (.goto 7, 3) := by decide +kernel
theorem d_La_ellipse_19 : decode c_yLa_ellipse 19 = .ok (.astore 7, 2) := by decide +kernel
theorem d_La_ellipse_21 : decode c_yLa_ellipse 21 = .ok (.iconst 1, 1) := by decide +kernel
theorem d_La_ellipse_22 : decode c_yLa_ellipse 22 = .ok (.ireturn, 1) := by decide +kernel
theorem d_La_ellipse_23 : decode c_yLa_ellipse 23 = .ok (.iconst 0, 1) := by decide +kernel
theorem d_La_ellipse_24 : decode c_yLa_ellipse 24 = .ok (.ireturn, 1) := by decide +kernel
set_option maxHeartbeats 4000000 in
set_option maxRecDepth 100000 in
theorem c_Law_ellipse (l : Launch) (hnt : l.stackTraces = false) (dC : Nat → ClassId) (dI : Nat → Nat → Nat) (sa : Nat → Nat) (hx_ hst hd hfa hp hw hs hk : Nat) (cL : ClassId) (w h mn : Int) (G : Int → Int64) (pic : Int → Int → Bool) (x y bw bh t : Int) (ho : Nat) (O : Int → Int64) (sz : Nat) (w1 : 1 ≤ w) (w2 : w ≤ 1024) (h1 : 1 ≤ h) (h2 : h ≤ 1024) (mn1 : 0 ≤ mn) (mn2 : mn ≤ 2) (hR : Rep G pic) (x1 : -2147483648 ≤ x) (y1 : -2147483648 ≤ y) (bw1 : -2147483648 ≤ bw) (bh1 : -2147483648 ≤ bh) (t1 : -2147483648 ≤ t) (x2 : x ≤ 2147483647) (y2 : y ≤ 2147483647) (bw2 : bw ≤ 2147483647) (bh2 : bh ≤ 2147483647) (t2 : t ≤ 2147483647) : Met l y_La_ellipse w_La_ellipse ({ frames := 9, cells := 2, slots := 12, locals := 174 }) (va_Pc [.ref hx_, .int (iZ x), .int (iZ y), .int (iZ bw), .int (iZ bh), .int (iZ t), .ref ho] (zPy (dC, dI) vwCl [(hx_, .inr (4, [.ref hp, .ref hst, .ref hd, .ref hfa])), (hp, .inr (2, [.int (iZ w), .int (iZ h), .int (iZ mn), .ref hw, .ref hs, .ref hk])), (hw, .inl (cL, 16384, .inr (.inl (aL G)))), (ho, .inl (cL, 1, .inr (.inl (aL O))))] [(cL, .long)] sz sa)) (va_Qi (fun (r : Int32) (u : (Int → Int64) × (Int → Int64)) => ∃ k : Int, r = iZ k ∧ ((k = 0 ∧ ∃ (r9 : Int32) (u9 : Int → Int64), (r9 = iZ (cnt w h (elD x y bw bh t)) ∧ (-4096 ≤ x ∧ x ≤ 4096 ∧ -4096 ≤ y ∧ y ≤ 4096 ∧ 1 ≤ bw ∧ bw ≤ 2048 ∧ 1 ≤ bh ∧ bh ≤ 2048 ∧ 1 ≤ t ∧ t ≤ 200) ∧ Rep u9 (drw mn (fun px py => onB w h px py && elD x y bw bh t px py) pic)) ∧ u.1 = u9 ∧ u.2 0 = r9.toInt64) ∨ ((k = 1 ∧ ¬ (-4096 ≤ x ∧ x ≤ 4096 ∧ -4096 ≤ y ∧ y ≤ 4096 ∧ 1 ≤ bw ∧ bw ≤ 2048 ∧ 1 ≤ bh ∧ bh ≤ 2048 ∧ 1 ≤ t ∧ t ≤ 200)) ∧ u.1 = G))) (fun u => zB (dC, dI) vwCl [(cL, .long)] (va_A [(hx_, .inr (4, [.ref hp, .ref hst, .ref hd, .ref hfa])), (hp, .inr (2, [.int (iZ w), .int (iZ h), .int (iZ mn), .ref hw, .ref hs, .ref hk])), (hw, .inl (cL, 16384, .inr (.inl (aL G)))), (ho, .inl (cL, 1, .inr (.inl (aL O))))] sz) [(hx_, .inr (4, [.ref hp, .ref hst, .ref hd, .ref hfa])), (hp, .inr (2, [.int (iZ w), .int (iZ h), .int (iZ mn), .ref hw, .ref hs, .ref hk])), (hw, .inl (cL, 16384, .inr (.inl (aL u.1)))), (ho, .inl (cL, 1, .inr (.inl (aL u.2))))]) (va_A [(hx_, .inr (4, [.ref hp, .ref hst, .ref hd, .ref hfa])), (hp, .inr (2, [.int (iZ w), .int (iZ h), .int (iZ mn), .ref hw, .ref hs, .ref hk])), (hw, .inl (cL, 16384, .inr (.inl (aL G)))), (ho, .inl (cL, 1, .inr (.inl (aL O))))] sz)) 2 12 (va_A [(hx_, .inr (4, [.ref hp, .ref hst, .ref hd, .ref hfa])), (hp, .inr (2, [.int (iZ w), .int (iZ h), .int (iZ mn), .ref hw, .ref hs, .ref hk])), (hw, .inl (cL, 16384, .inr (.inl (aL G)))), (ho, .inl (cL, 1, .inr (.inl (aL O))))] sz) := by
  refine va_MetW (cc := c_yLa_ellipse) (maxL := 8) (ret := (some .int)) (hh := [((0 : Nat), (16 : Nat), (19 : Nat), (13 : Nat))]) (by decide) rfl ?_
  intro p e s m args below meth c s₁ B hml hv
  obtain ⟨rfl, ⟨hsz, hP, hK, hD0, hXK⟩, hyN⟩ := hv
  have hx := B.exec
  have hb := B.bytes
  have hr := B.returns
  have hts0 := atoms_spec (ws := w_La_ellipse) B.pre
  have hts : ∀ w ∈ gT, w.before _ s = true := fun w h => hts0 w (List.mem_cons_of_mem _ h)
  have hown : s.vm.findClass R_La = some m.cls := findClass_of_methodNamed B.named
  have hlocks := B.notSynchronized
  have htb : c.exceptionTable.toList = tableOf ([((0 : Nat), (16 : Nat), (19 : Nat), (13 : Nat))]) := vx_table (x := y_La_ellipse) B (hts0 _ List.mem_cons_self)
  subst hsz
  have hD := hD0.self (sz := s.heap.size)
  generalize hAe : va_A [(hx_, .inr (4, [.ref hp, .ref hst, .ref hd, .ref hfa])), (hp, .inr (2, [.int (iZ w), .int (iZ h), .int (iZ mn), .ref hw, .ref hs, .ref hk])), (hw, .inl (cL, 16384, .inr (.inl (aL G)))), (ho, .inl (cL, 1, .inr (.inl (aL O))))] s.heap.size = A at hD hXK ⊢
  have hA : ∀ q : Nat, s.heap.size ≤ q → A q := fun q h => by rw [← hAe]; exact Or.inr h
  obtain ⟨H, hH⟩ : ∃ H, s.heap = H := ⟨_, rfl⟩
  have hS : va_S A s.heap H [] := by rw [← hH]; exact va_S.rf
  rw [hH] at hP
  rw [hH]
  have hl := lv_entry ([.ref hx_, .int (iZ x), .int (iZ y), .int (iZ bw), .int (iZ bh), .int (iZ t), .ref ho]) (n := 8) (Nat.le_of_ble_eq_true rfl)
  rw [lg_entry_eq]
  generalize (lg_sl ([.ref hx_, .int (iZ x), .int (iZ y), .int (iZ bw), .int (iZ bh), .int (iZ t), .ref ho]) ++ List.replicate (8 - (lg_sl ([.ref hx_, .int (iZ x), .int (iZ y), .int (iZ bw), .int (iZ bh), .int (iZ t), .ref ho])).length) Slot.unset).toArray = ls at hl ⊢
  have hl : lv_has ls 8 [(0, .ref hx_), (1, .int (iZ x)), (2, .int (iZ y)), (3, .int (iZ bw)), (4, .int (iZ bh)), (5, .int (iZ t)), (6, .ref ho)] := hl
  refine lv_aload hx hb d_La_ellipse_0 (lv_at hl 6 rfl) ?_
  refine lv_iconst (v := iZ (0)) hx hb d_La_ellipse_2 rfl ?_
  refine lv_aload_n hx hb d_La_ellipse_3 rfl (lv_at hl 0 rfl) ?_
  refine lv_iload_n hx hb d_La_ellipse_4 rfl (lv_at hl 1 rfl) ?_
  refine lv_iload_n hx hb d_La_ellipse_5 rfl (lv_at hl 2 rfl) ?_
  refine lv_iload_n hx hb d_La_ellipse_6 rfl (lv_at hl 3 rfl) ?_
  refine lv_iload hx hb d_La_ellipse_7 (lv_at hl 4 rfl) ?_
  refine lv_iload hx hb d_La_ellipse_9 (lv_at hl 5 rfl) ?_
  refine zx_i (w1 := fun (u_11 : Int → Int64) => [(hx_, .inr (4, [.ref hp, .ref hst, .ref hd, .ref hfa])), (hp, .inr (2, [.int (iZ w), .int (iZ h), .int (iZ mn), .ref hw, .ref hs, .ref hk])), (hw, .inl (cL, 16384, .inr (.inl (aL u_11))))]) (wr := [(ho, .inl (cL, 1, .inr (.inl (aL O))))]) (vx_runV (As := [.int (iZ x), .int (iZ y), .int (iZ bw), .int (iZ bh), .int (iZ t)]) (rest := [.int (iZ 0), .ref ho]) ⟨hx, hb, hml, hown, hts⟩ (c_DotSheet_ellipse l hnt dC dI sa hx_ hst hd hfa hp hw hs hk cL w h mn G pic x y bw bh t H.size (by first | omega | assumption) (by first | omega | assumption) (by first | omega | assumption) (by first | omega | assumption) (by first | omega | assumption) (by first | omega | assumption) (by first | omega | assumption) (by first | omega | assumption) (by first | omega | assumption) (by first | omega | assumption) (by first | omega | assumption) (by first | omega | assumption) (by first | omega | assumption) (by first | omega | assumption) (by first | omega | assumption) (by first | omega | assumption) (by first | omega | assumption)) (cwV 5 hts (gV t_391 t_392 t_393 t_1 t_394) rfl rfl rfl (by decide +kernel) ⟨Nat.le_of_ble_eq_true rfl, Nat.le_of_ble_eq_true rfl⟩) ⟨zPx_blind, va_recv hK hP (ci := 4) (q0 := 0) rfl rfl, zPx_pre hP hD hK hXK hS hA [0, 1, 2] [0] rfl rfl rfl rfl⟩ rfl rfl hl.1 rfl (lv_room (Nat.le_of_ble_eq_true rfl)) d_La_ellipse_11 ⟨Nat.le_of_ble_eq_true rfl, Nat.le_of_ble_eq_true rfl⟩) hP hD hS hA [0, 1, 2] [3] rfl rfl rfl (by decide) (fun E_ ce_ q9_ H locs x_11 hP hD hS hce hcv hcl => ?_) (fun r_11 u_11 H locs q_11 hP hD hS => ?_)
  · have hP : va_P (dC, dI) vwCl [(ho, .inl (cL, 1, .inr (.inl (aL O)))), (hx_, .inr (4, [.ref hp, .ref hst, .ref hd, .ref hfa])), (hp, .inr (2, [.int (iZ w), .int (iZ h), .int (iZ mn), .ref hw, .ref hs, .ref hk])), (hw, .inl (cL, 16384, .inr (.inl (aL G))))] H := hP
    have hD : va_D A [(ho, .inl (cL, 1, .inr (.inl (aL O)))), (hx_, .inr (4, [.ref hp, .ref hst, .ref hd, .ref hfa])), (hp, .inr (2, [.int (iZ w), .int (iZ h), .int (iZ mn), .ref hw, .ref hs, .ref hk])), (hw, .inl (cL, 16384, .inr (.inl (aL G))))] := hD
    obtain ⟨rfl, x_11⟩ := x_11
    refine vx_catch (own := R_La) (name := "java/lang/IllegalArgumentException") hown [] ⟨0, 16, 19, 13⟩ [] htb (fun z hz => nomatch hz) (by decide) (by decide) (hts _ t_146) (va_Nw.use rfl (hXK.1 _ xc_A)) hce hcv hcl ?_
    refine lv_astore (lv' := [(7, .ref q9_), (0, .ref hx_), (1, .int (iZ x)), (2, .int (iZ y)), (3, .int (iZ bw)), (4, .int (iZ bh)), (5, .int (iZ t)), (6, .ref ho)]) hx hb d_La_ellipse_19 hl (by decide) rfl (fun ls hl => ?_)
    refine lv_iconst (v := iZ (1)) hx hb d_La_ellipse_21 rfl ?_
    have hP := hP.sub (ws' := [(hx_, .inr (4, [.ref hp, .ref hst, .ref hd, .ref hfa])), (hp, .inr (2, [.int (iZ w), .int (iZ h), .int (iZ mn), .ref hw, .ref hs, .ref hk])), (hw, .inl (cL, 16384, .inr (.inl (aL G)))), (ho, .inl (cL, 1, .inr (.inl (aL O))))]) [1, 2, 3, 0] rfl
    have hD := hD.sub (ws' := [(hx_, .inr (4, [.ref hp, .ref hst, .ref hd, .ref hfa])), (hp, .inr (2, [.int (iZ w), .int (iZ h), .int (iZ mn), .ref hw, .ref hs, .ref hk])), (hw, .inl (cL, 16384, .inr (.inl (aL G)))), (ho, .inl (cL, 1, .inr (.inl (aL O))))]) [1, 2, 3, 0] (by decide) rfl
    exact W.iret hx hb hr (fun t9_ ht hW => ⟨⟨_, ((G, O)), rfl, ⟨1, rfl, Or.inr ⟨⟨rfl, x_11⟩, rfl⟩⟩, by rw [ht]; exact hP, va_K.moved hW.alike hK, hD⟩, hS.F ht⟩) hS.2.2 d_La_ellipse_22
  have hP : va_P (dC, dI) vwCl [(ho, .inl (cL, 1, .inr (.inl (aL O)))), (hx_, .inr (4, [.ref hp, .ref hst, .ref hd, .ref hfa])), (hp, .inr (2, [.int (iZ w), .int (iZ h), .int (iZ mn), .ref hw, .ref hs, .ref hk])), (hw, .inl (cL, 16384, .inr (.inl (aL u_11))))] H := hP
  have hD : va_D A [(ho, .inl (cL, 1, .inr (.inl (aL O)))), (hx_, .inr (4, [.ref hp, .ref hst, .ref hd, .ref hfa])), (hp, .inr (2, [.int (iZ w), .int (iZ h), .int (iZ mn), .ref hw, .ref hs, .ref hk])), (hw, .inl (cL, 16384, .inr (.inl (aL u_11))))] := hD
  obtain ⟨rfl, q_11⟩ := q_11
  refine lv_i2l hx hb d_La_ellipse_14 rfl ?_
  refine z_last hx hb hK hP hD hS 0 0 rfl rfl (by omega) (by omega) (by omega) d_La_ellipse_15 (fun H locs hP hD hS => ?_)
  have hP : va_P (dC, dI) vwCl [(ho, .inl (cL, 1, .inr (.inl (aL (upZ O 0 ((iZ (cnt w h (elD x y bw bh t))).toInt64)))))), (hx_, .inr (4, [.ref hp, .ref hst, .ref hd, .ref hfa])), (hp, .inr (2, [.int (iZ w), .int (iZ h), .int (iZ mn), .ref hw, .ref hs, .ref hk])), (hw, .inl (cL, 16384, .inr (.inl (aL u_11))))] H := hP
  have hD : va_D A [(ho, .inl (cL, 1, .inr (.inl (aL (upZ O 0 ((iZ (cnt w h (elD x y bw bh t))).toInt64)))))), (hx_, .inr (4, [.ref hp, .ref hst, .ref hd, .ref hfa])), (hp, .inr (2, [.int (iZ w), .int (iZ h), .int (iZ mn), .ref hw, .ref hs, .ref hk])), (hw, .inl (cL, 16384, .inr (.inl (aL u_11))))] := hD
  refine lv_goto (tgt := 23) hx hb d_La_ellipse_16 (by decide) ?_
  refine lv_iconst (v := iZ (0)) hx hb d_La_ellipse_23 rfl ?_
  have hP := hP.sub (ws' := [(hx_, .inr (4, [.ref hp, .ref hst, .ref hd, .ref hfa])), (hp, .inr (2, [.int (iZ w), .int (iZ h), .int (iZ mn), .ref hw, .ref hs, .ref hk])), (hw, .inl (cL, 16384, .inr (.inl (aL u_11)))), (ho, .inl (cL, 1, .inr (.inl (aL (upZ O 0 ((iZ (cnt w h (elD x y bw bh t))).toInt64))))))]) [1, 2, 3, 0] rfl
  have hD := hD.sub (ws' := [(hx_, .inr (4, [.ref hp, .ref hst, .ref hd, .ref hfa])), (hp, .inr (2, [.int (iZ w), .int (iZ h), .int (iZ mn), .ref hw, .ref hs, .ref hk])), (hw, .inl (cL, 16384, .inr (.inl (aL u_11)))), (ho, .inl (cL, 1, .inr (.inl (aL (upZ O 0 ((iZ (cnt w h (elD x y bw bh t))).toInt64))))))]) [1, 2, 3, 0] (by decide) rfl
  exact W.iret hx hb hr (fun t9_ ht hW => ⟨⟨_, ((u_11, upZ O 0 ((iZ (cnt w h (elD x y bw bh t))).toInt64))), rfl, ⟨0, rfl, Or.inl ⟨rfl, _, u_11, ⟨rfl, q_11⟩, rfl, upZ_s O 0 ((iZ (cnt w h (elD x y bw bh t))).toInt64)⟩⟩, by rw [ht]; exact hP, va_K.moved hW.alike hK, hD⟩, hS.F ht⟩) hS.2.2 d_La_ellipse_24
theorem d_La_picture_0 : decode c_yLa_picture 0 = .ok (.aload 4, 2) := by decide +kernel
theorem d_La_picture_2 : decode c_yLa_picture 2 = .ok (.iconst 0, 1) := by decide +kernel
theorem d_La_picture_3 : decode c_yLa_picture 3 = .ok (.aload_n 0, 1) := by decide +kernel
theorem d_La_picture_4 : decode c_yLa_picture 4 = .ok (.iload_n 1, 1) := by decide +kernel
theorem d_La_picture_5 : decode c_yLa_picture 5 = .ok (.iload_n 2, 1) := by decide +kernel
theorem d_La_picture_6 : decode c_yLa_picture 6 = .ok (.iload_n 3, 1) := by decide +kernel
theorem d_La_picture_7 : decode c_yLa_picture 7 = .ok (.invokevirtual 53, 3) := by decide +kernel
theorem d_La_picture_10 : decode c_yLa_picture 10 = .ok (.i2l, 1) := by decide +kernel
theorem d_La_picture_11 : decode c_yLa_picture 11 = .ok (.lastore, 1) := by decide +kernel
theorem d_La_picture_12 : decode c_yLa_picture 12 = .ok (.goto 11, 3) := by decide +kernel
theorem d_La_picture_15 : decode c_yLa_picture 15 = .ok (.astore 5, 2) := by decide +kernel
theorem d_La_picture_17 : decode c_yLa_picture 17 = .ok (.iconst 1, 1) := by decide +kernel
theorem d_La_picture_18 : decode c_yLa_picture 18 = .ok (.ireturn, 1) := by decide +kernel
theorem d_La_picture_19 : decode c_yLa_picture 19 = .ok (.astore 5, 2) := by decide +kernel
theorem d_La_picture_21 : decode c_yLa_picture 21 = .ok (.iconst 2, 1) := by decide +kernel
theorem d_La_picture_22 : decode c_yLa_picture 22 = .ok (.ireturn, 1) := by decide +kernel
theorem d_La_picture_23 : decode c_yLa_picture 23 = .ok (.iconst 0, 1) := by decide +kernel
theorem d_La_picture_24 : decode c_yLa_picture 24 = .ok (.ireturn, 1) := by decide +kernel
set_option maxHeartbeats 4000000 in
set_option maxRecDepth 100000 in
theorem c_Law_picture (l : Launch) (hnt : l.stackTraces = false) (dC : Nat → ClassId) (dI : Nat → Nat → Nat) (sa : Nat → Nat) (hx_ hst hd hfa hp hw hs hk : Nat) (cL : ClassId) (w h mn : Int) (G : Int → Int64) (pic : Int → Int → Bool) (hy : Nat) (cB : ClassId) (n : Int) (Y : Int → Int32) (dr : Int → Int) (x y bw : Int) (ho : Nat) (O : Int → Int64) (sz : Nat) (w1 : 1 ≤ w) (w2 : w ≤ 1024) (h1 : 1 ≤ h) (h2 : h ≤ 1024) (mn1 : 0 ≤ mn) (mn2 : mn ≤ 2) (hR : Rep G pic) (n1 : 0 ≤ n) (n2 : n ≤ 4096) (hY : RepD Y n dr) (x1 : -2147483648 ≤ x) (y1 : -2147483648 ≤ y) (bw1 : -2147483648 ≤ bw) (x2 : x ≤ 2147483647) (y2 : y ≤ 2147483647) (bw2 : bw ≤ 2147483647) : Met l y_La_picture w_La_picture ({ frames := 8, cells := 2, slots := 12, locals := 148 }) (va_Pc [.ref hx_, .int (iZ x), .int (iZ y), .int (iZ bw), .ref ho] (zPy (dC, dI) vwCl [(hx_, .inr (4, [.ref hp, .ref hst, .ref hd, .ref hfa])), (hp, .inr (2, [.int (iZ w), .int (iZ h), .int (iZ mn), .ref hw, .ref hs, .ref hk])), (hw, .inl (cL, 16384, .inr (.inl (aL G)))), (hd, .inr (0, [.int (iZ n), .ref hy])), (hy, .inl (cB, 4096, .inl (aI Y))), (ho, .inl (cL, 1, .inr (.inl (aL O))))] [(cL, .long), (cB, .byte)] sz sa)) (va_Qi (fun (r : Int32) (u : (Int → Int64) × (Int → Int64)) => ∃ k : Int, r = iZ k ∧ ((k = 0 ∧ ∃ (r9 : Int32) (u9 : Int → Int64), (r9 = iZ (cnt w h (picB dr x y bw ((bw + 7) / 8) (n / ((bw + 7) / 8)))) ∧ (-4096 ≤ x ∧ x ≤ 4096 ∧ -4096 ≤ y ∧ y ≤ 4096 ∧ 1 ≤ bw ∧ bw ≤ 2048 ∧ n % ((bw + 7) / 8) = 0) ∧ Rep u9 (drw mn (fun px py => onB w h px py && picB dr x y bw ((bw + 7) / 8) (n / ((bw + 7) / 8)) px py) pic)) ∧ u.1 = u9 ∧ u.2 0 = r9.toInt64) ∨ (((k = 1 ∧ ¬ (-4096 ≤ x ∧ x ≤ 4096 ∧ -4096 ≤ y ∧ y ≤ 4096 ∧ 1 ≤ bw ∧ bw ≤ 2048)) ∨ (k = 2 ∧ (-4096 ≤ x ∧ x ≤ 4096 ∧ -4096 ≤ y ∧ y ≤ 4096 ∧ 1 ≤ bw ∧ bw ≤ 2048) ∧ n % ((bw + 7) / 8) ≠ 0)) ∧ u.1 = G))) (fun u => zB (dC, dI) vwCl [(cL, .long), (cB, .byte)] (va_A [(hx_, .inr (4, [.ref hp, .ref hst, .ref hd, .ref hfa])), (hp, .inr (2, [.int (iZ w), .int (iZ h), .int (iZ mn), .ref hw, .ref hs, .ref hk])), (hw, .inl (cL, 16384, .inr (.inl (aL G)))), (hd, .inr (0, [.int (iZ n), .ref hy])), (hy, .inl (cB, 4096, .inl (aI Y))), (ho, .inl (cL, 1, .inr (.inl (aL O))))] sz) [(hx_, .inr (4, [.ref hp, .ref hst, .ref hd, .ref hfa])), (hp, .inr (2, [.int (iZ w), .int (iZ h), .int (iZ mn), .ref hw, .ref hs, .ref hk])), (hw, .inl (cL, 16384, .inr (.inl (aL u.1)))), (hd, .inr (0, [.int (iZ n), .ref hy])), (hy, .inl (cB, 4096, .inl (aI Y))), (ho, .inl (cL, 1, .inr (.inl (aL u.2))))]) (va_A [(hx_, .inr (4, [.ref hp, .ref hst, .ref hd, .ref hfa])), (hp, .inr (2, [.int (iZ w), .int (iZ h), .int (iZ mn), .ref hw, .ref hs, .ref hk])), (hw, .inl (cL, 16384, .inr (.inl (aL G)))), (hd, .inr (0, [.int (iZ n), .ref hy])), (hy, .inl (cB, 4096, .inl (aI Y))), (ho, .inl (cL, 1, .inr (.inl (aL O))))] sz)) 2 12 (va_A [(hx_, .inr (4, [.ref hp, .ref hst, .ref hd, .ref hfa])), (hp, .inr (2, [.int (iZ w), .int (iZ h), .int (iZ mn), .ref hw, .ref hs, .ref hk])), (hw, .inl (cL, 16384, .inr (.inl (aL G)))), (hd, .inr (0, [.int (iZ n), .ref hy])), (hy, .inl (cB, 4096, .inl (aI Y))), (ho, .inl (cL, 1, .inr (.inl (aL O))))] sz) := by
  refine va_MetW (cc := c_yLa_picture) (maxL := 6) (ret := (some .int)) (hh := [((0 : Nat), (12 : Nat), (15 : Nat), (13 : Nat)), ((0 : Nat), (12 : Nat), (19 : Nat), (51 : Nat))]) (by decide) rfl ?_
  intro p e s m args below meth c s₁ B hml hv
  obtain ⟨rfl, ⟨hsz, hP, hK, hD0, hXK⟩, hyN⟩ := hv
  have hx := B.exec
  have hb := B.bytes
  have hr := B.returns
  have hts0 := atoms_spec (ws := w_La_picture) B.pre
  have hts : ∀ w ∈ gT, w.before _ s = true := fun w h => hts0 w (List.mem_cons_of_mem _ h)
  have hown : s.vm.findClass R_La = some m.cls := findClass_of_methodNamed B.named
  have hlocks := B.notSynchronized
  have htb : c.exceptionTable.toList = tableOf ([((0 : Nat), (12 : Nat), (15 : Nat), (13 : Nat)), ((0 : Nat), (12 : Nat), (19 : Nat), (51 : Nat))]) := vx_table (x := y_La_picture) B (hts0 _ List.mem_cons_self)
  subst hsz
  have hD := hD0.self (sz := s.heap.size)
  generalize hAe : va_A [(hx_, .inr (4, [.ref hp, .ref hst, .ref hd, .ref hfa])), (hp, .inr (2, [.int (iZ w), .int (iZ h), .int (iZ mn), .ref hw, .ref hs, .ref hk])), (hw, .inl (cL, 16384, .inr (.inl (aL G)))), (hd, .inr (0, [.int (iZ n), .ref hy])), (hy, .inl (cB, 4096, .inl (aI Y))), (ho, .inl (cL, 1, .inr (.inl (aL O))))] s.heap.size = A at hD hXK ⊢
  have hA : ∀ q : Nat, s.heap.size ≤ q → A q := fun q h => by rw [← hAe]; exact Or.inr h
  obtain ⟨H, hH⟩ : ∃ H, s.heap = H := ⟨_, rfl⟩
  have hS : va_S A s.heap H [] := by rw [← hH]; exact va_S.rf
  rw [hH] at hP
  rw [hH]
  have hl := lv_entry ([.ref hx_, .int (iZ x), .int (iZ y), .int (iZ bw), .ref ho]) (n := 6) (Nat.le_of_ble_eq_true rfl)
  rw [lg_entry_eq]
  generalize (lg_sl ([.ref hx_, .int (iZ x), .int (iZ y), .int (iZ bw), .ref ho]) ++ List.replicate (6 - (lg_sl ([.ref hx_, .int (iZ x), .int (iZ y), .int (iZ bw), .ref ho])).length) Slot.unset).toArray = ls at hl ⊢
  have hl : lv_has ls 6 [(0, .ref hx_), (1, .int (iZ x)), (2, .int (iZ y)), (3, .int (iZ bw)), (4, .ref ho)] := hl
  refine lv_aload hx hb d_La_picture_0 (lv_at hl 4 rfl) ?_
  refine lv_iconst (v := iZ (0)) hx hb d_La_picture_2 rfl ?_
  refine lv_aload_n hx hb d_La_picture_3 rfl (lv_at hl 0 rfl) ?_
  refine lv_iload_n hx hb d_La_picture_4 rfl (lv_at hl 1 rfl) ?_
  refine lv_iload_n hx hb d_La_picture_5 rfl (lv_at hl 2 rfl) ?_
  refine lv_iload_n hx hb d_La_picture_6 rfl (lv_at hl 3 rfl) ?_
  refine zx_i (w1 := fun (u_7 : Int → Int64) => [(hx_, .inr (4, [.ref hp, .ref hst, .ref hd, .ref hfa])), (hp, .inr (2, [.int (iZ w), .int (iZ h), .int (iZ mn), .ref hw, .ref hs, .ref hk])), (hw, .inl (cL, 16384, .inr (.inl (aL u_7)))), (hd, .inr (0, [.int (iZ n), .ref hy])), (hy, .inl (cB, 4096, .inl (aI Y)))]) (wr := [(ho, .inl (cL, 1, .inr (.inl (aL O))))]) (vx_runV (As := [.int (iZ x), .int (iZ y), .int (iZ bw)]) (rest := [.int (iZ 0), .ref ho]) ⟨hx, hb, hml, hown, hts⟩ (c_DotSheet_picture l hnt dC dI sa hx_ hst hd hfa hp hw hs hk cL w h mn G pic hy cB n Y dr x y bw H.size (by first | omega | assumption) (by first | omega | assumption) (by first | omega | assumption) (by first | omega | assumption) (by first | omega | assumption) (by first | omega | assumption) (by first | omega | assumption) (by first | omega | assumption) (by first | omega | assumption) (by first | omega | assumption) (by first | omega | assumption) (by first | omega | assumption) (by first | omega | assumption) (by first | omega | assumption) (by first | omega | assumption) (by first | omega | assumption)) (cwV 3 hts (gV t_549 t_550 t_551 t_1 t_552) rfl rfl rfl (by decide +kernel) ⟨Nat.le_of_ble_eq_true rfl, Nat.le_of_ble_eq_true rfl⟩) ⟨zPx_blind, va_recv hK hP (ci := 4) (q0 := 0) rfl rfl, zPx_pre hP hD hK hXK hS hA [0, 1, 2, 3, 4] [0, 1] rfl rfl rfl rfl⟩ rfl rfl hl.1 rfl (lv_room (Nat.le_of_ble_eq_true rfl)) d_La_picture_7 ⟨Nat.le_of_ble_eq_true rfl, Nat.le_of_ble_eq_true rfl⟩) hP hD hS hA [0, 1, 2, 3, 4] [5] rfl rfl rfl (by decide) (fun E_ ce_ q9_ H locs x_7 hP hD hS hce hcv hcl => ?_) (fun r_7 u_7 H locs q_7 hP hD hS => ?_)
  · have hP : va_P (dC, dI) vwCl [(ho, .inl (cL, 1, .inr (.inl (aL O)))), (hx_, .inr (4, [.ref hp, .ref hst, .ref hd, .ref hfa])), (hp, .inr (2, [.int (iZ w), .int (iZ h), .int (iZ mn), .ref hw, .ref hs, .ref hk])), (hw, .inl (cL, 16384, .inr (.inl (aL G)))), (hd, .inr (0, [.int (iZ n), .ref hy])), (hy, .inl (cB, 4096, .inl (aI Y)))] H := hP
    have hD : va_D A [(ho, .inl (cL, 1, .inr (.inl (aL O)))), (hx_, .inr (4, [.ref hp, .ref hst, .ref hd, .ref hfa])), (hp, .inr (2, [.int (iZ w), .int (iZ h), .int (iZ mn), .ref hw, .ref hs, .ref hk])), (hw, .inl (cL, 16384, .inr (.inl (aL G)))), (hd, .inr (0, [.int (iZ n), .ref hy])), (hy, .inl (cB, 4096, .inl (aI Y)))] := hD
    rcases x_7 with ⟨rfl, x_7⟩ | ⟨rfl, x_7⟩
    · refine vx_catch (own := R_La) (name := "java/lang/IllegalArgumentException") hown [] ⟨0, 12, 15, 13⟩ [⟨0, 12, 19, 51⟩] htb (fun z hz => nomatch hz) (by decide) (by decide) (hts _ t_146) (va_Nw.use rfl (hXK.1 _ xc_A)) hce hcv hcl ?_
      refine lv_astore (lv' := [(5, .ref q9_), (0, .ref hx_), (1, .int (iZ x)), (2, .int (iZ y)), (3, .int (iZ bw)), (4, .ref ho)]) hx hb d_La_picture_15 hl (by decide) rfl (fun ls hl => ?_)
      refine lv_iconst (v := iZ (1)) hx hb d_La_picture_17 rfl ?_
      have hP := hP.sub (ws' := [(hx_, .inr (4, [.ref hp, .ref hst, .ref hd, .ref hfa])), (hp, .inr (2, [.int (iZ w), .int (iZ h), .int (iZ mn), .ref hw, .ref hs, .ref hk])), (hw, .inl (cL, 16384, .inr (.inl (aL G)))), (hd, .inr (0, [.int (iZ n), .ref hy])), (hy, .inl (cB, 4096, .inl (aI Y))), (ho, .inl (cL, 1, .inr (.inl (aL O))))]) [1, 2, 3, 4, 5, 0] rfl
      have hD := hD.sub (ws' := [(hx_, .inr (4, [.ref hp, .ref hst, .ref hd, .ref hfa])), (hp, .inr (2, [.int (iZ w), .int (iZ h), .int (iZ mn), .ref hw, .ref hs, .ref hk])), (hw, .inl (cL, 16384, .inr (.inl (aL G)))), (hd, .inr (0, [.int (iZ n), .ref hy])), (hy, .inl (cB, 4096, .inl (aI Y))), (ho, .inl (cL, 1, .inr (.inl (aL O))))]) [1, 2, 3, 4, 5, 0] (by decide) rfl
      exact W.iret hx hb hr (fun t9_ ht hW => ⟨⟨_, ((G, O)), rfl, ⟨1, rfl, Or.inr ⟨Or.inl ⟨rfl, x_7⟩, rfl⟩⟩, by rw [ht]; exact hP, va_K.moved hW.alike hK, hD⟩, hS.F ht⟩) hS.2.2 d_La_picture_18
    · refine vx_catch (own := R_La) (name := "java/lang/IllegalStateException") hown [⟨0, 12, 15, 13⟩] ⟨0, 12, 19, 51⟩ [] htb (fun z hz => by cases List.mem_singleton.mp hz; exact Or.inr ⟨by decide, _, hts _ t_146, hyN.2⟩) (by decide) (by decide) (hts _ t_520) (va_Nw.use rfl (hXK.1 _ xc_S)) hce hcv hcl ?_
      refine lv_astore (lv' := [(5, .ref q9_), (0, .ref hx_), (1, .int (iZ x)), (2, .int (iZ y)), (3, .int (iZ bw)), (4, .ref ho)]) hx hb d_La_picture_19 hl (by decide) rfl (fun ls hl => ?_)
      refine lv_iconst (v := iZ (2)) hx hb d_La_picture_21 rfl ?_
      have hP := hP.sub (ws' := [(hx_, .inr (4, [.ref hp, .ref hst, .ref hd, .ref hfa])), (hp, .inr (2, [.int (iZ w), .int (iZ h), .int (iZ mn), .ref hw, .ref hs, .ref hk])), (hw, .inl (cL, 16384, .inr (.inl (aL G)))), (hd, .inr (0, [.int (iZ n), .ref hy])), (hy, .inl (cB, 4096, .inl (aI Y))), (ho, .inl (cL, 1, .inr (.inl (aL O))))]) [1, 2, 3, 4, 5, 0] rfl
      have hD := hD.sub (ws' := [(hx_, .inr (4, [.ref hp, .ref hst, .ref hd, .ref hfa])), (hp, .inr (2, [.int (iZ w), .int (iZ h), .int (iZ mn), .ref hw, .ref hs, .ref hk])), (hw, .inl (cL, 16384, .inr (.inl (aL G)))), (hd, .inr (0, [.int (iZ n), .ref hy])), (hy, .inl (cB, 4096, .inl (aI Y))), (ho, .inl (cL, 1, .inr (.inl (aL O))))]) [1, 2, 3, 4, 5, 0] (by decide) rfl
      exact W.iret hx hb hr (fun t9_ ht hW => ⟨⟨_, ((G, O)), rfl, ⟨2, rfl, Or.inr ⟨Or.inr ⟨rfl, x_7⟩, rfl⟩⟩, by rw [ht]; exact hP, va_K.moved hW.alike hK, hD⟩, hS.F ht⟩) hS.2.2 d_La_picture_22
  have hP : va_P (dC, dI) vwCl [(ho, .inl (cL, 1, .inr (.inl (aL O)))), (hx_, .inr (4, [.ref hp, .ref hst, .ref hd, .ref hfa])), (hp, .inr (2, [.int (iZ w), .int (iZ h), .int (iZ mn), .ref hw, .ref hs, .ref hk])), (hw, .inl (cL, 16384, .inr (.inl (aL u_7)))), (hd, .inr (0, [.int (iZ n), .ref hy])), (hy, .inl (cB, 4096, .inl (aI Y)))] H := hP
  have hD : va_D A [(ho, .inl (cL, 1, .inr (.inl (aL O)))), (hx_, .inr (4, [.ref hp, .ref hst, .ref hd, .ref hfa])), (hp, .inr (2, [.int (iZ w), .int (iZ h), .int (iZ mn), .ref hw, .ref hs, .ref hk])), (hw, .inl (cL, 16384, .inr (.inl (aL u_7)))), (hd, .inr (0, [.int (iZ n), .ref hy])), (hy, .inl (cB, 4096, .inl (aI Y)))] := hD
  obtain ⟨rfl, q_7⟩ := q_7
  refine lv_i2l hx hb d_La_picture_10 rfl ?_
  refine z_last hx hb hK hP hD hS 0 0 rfl rfl (by omega) (by omega) (by omega) d_La_picture_11 (fun H locs hP hD hS => ?_)
  have hP : va_P (dC, dI) vwCl [(ho, .inl (cL, 1, .inr (.inl (aL (upZ O 0 ((iZ (cnt w h (picB dr x y bw ((bw + 7) / 8) (n / ((bw + 7) / 8))))).toInt64)))))), (hx_, .inr (4, [.ref hp, .ref hst, .ref hd, .ref hfa])), (hp, .inr (2, [.int (iZ w), .int (iZ h), .int (iZ mn), .ref hw, .ref hs, .ref hk])), (hw, .inl (cL, 16384, .inr (.inl (aL u_7)))), (hd, .inr (0, [.int (iZ n), .ref hy])), (hy, .inl (cB, 4096, .inl (aI Y)))] H := hP
  have hD : va_D A [(ho, .inl (cL, 1, .inr (.inl (aL (upZ O 0 ((iZ (cnt w h (picB dr x y bw ((bw + 7) / 8) (n / ((bw + 7) / 8))))).toInt64)))))), (hx_, .inr (4, [.ref hp, .ref hst, .ref hd, .ref hfa])), (hp, .inr (2, [.int (iZ w), .int (iZ h), .int (iZ mn), .ref hw, .ref hs, .ref hk])), (hw, .inl (cL, 16384, .inr (.inl (aL u_7)))), (hd, .inr (0, [.int (iZ n), .ref hy])), (hy, .inl (cB, 4096, .inl (aI Y)))] := hD
  refine lv_goto (tgt := 23) hx hb d_La_picture_12 (by decide) ?_
  refine lv_iconst (v := iZ (0)) hx hb d_La_picture_23 rfl ?_
  have hP := hP.sub (ws' := [(hx_, .inr (4, [.ref hp, .ref hst, .ref hd, .ref hfa])), (hp, .inr (2, [.int (iZ w), .int (iZ h), .int (iZ mn), .ref hw, .ref hs, .ref hk])), (hw, .inl (cL, 16384, .inr (.inl (aL u_7)))), (hd, .inr (0, [.int (iZ n), .ref hy])), (hy, .inl (cB, 4096, .inl (aI Y))), (ho, .inl (cL, 1, .inr (.inl (aL (upZ O 0 ((iZ (cnt w h (picB dr x y bw ((bw + 7) / 8) (n / ((bw + 7) / 8))))).toInt64))))))]) [1, 2, 3, 4, 5, 0] rfl
  have hD := hD.sub (ws' := [(hx_, .inr (4, [.ref hp, .ref hst, .ref hd, .ref hfa])), (hp, .inr (2, [.int (iZ w), .int (iZ h), .int (iZ mn), .ref hw, .ref hs, .ref hk])), (hw, .inl (cL, 16384, .inr (.inl (aL u_7)))), (hd, .inr (0, [.int (iZ n), .ref hy])), (hy, .inl (cB, 4096, .inl (aI Y))), (ho, .inl (cL, 1, .inr (.inl (aL (upZ O 0 ((iZ (cnt w h (picB dr x y bw ((bw + 7) / 8) (n / ((bw + 7) / 8))))).toInt64))))))]) [1, 2, 3, 4, 5, 0] (by decide) rfl
  exact W.iret hx hb hr (fun t9_ ht hW => ⟨⟨_, ((u_7, upZ O 0 ((iZ (cnt w h (picB dr x y bw ((bw + 7) / 8) (n / ((bw + 7) / 8))))).toInt64))), rfl, ⟨0, rfl, Or.inl ⟨rfl, _, u_7, ⟨rfl, q_7⟩, rfl, upZ_s O 0 ((iZ (cnt w h (picB dr x y bw ((bw + 7) / 8) (n / ((bw + 7) / 8))))).toInt64)⟩⟩, by rw [ht]; exact hP, va_K.moved hW.alike hK, hD⟩, hS.F ht⟩) hS.2.2 d_La_picture_24
theorem d_La_font_0 : decode c_yLa_font 0 = .ok (.aload_n 0, 1) := by decide +kernel
theorem d_La_font_1 : decode c_yLa_font 1 = .ok (.iload_n 1, 1) := by decide +kernel
theorem d_La_font_2 : decode c_yLa_font 2 = .ok (.iload_n 2, 1) := by decide +kernel
theorem d_La_font_3 : decode c_yLa_font 3 = .ok (.iload_n 3, 1) := by decide +kernel
theorem d_La_font_4 : decode c_yLa_font 4 = .ok (.iload 4, 2) := by decide +kernel
theorem d_La_font_6 : decode c_yLa_font 6 = .ok (.invokevirtual 33, 3) := by decide +kernel
theorem d_La_font_9 : decode c_yLa_font 9 = .ok (.goto 7, 3) := by decide +kernel
theorem d_La_font_12 : decode c_yLa_font 12 = .ok (.astore 5, 2) := by decide +kernel
theorem d_La_font_14 : decode c_yLa_font 14 = .ok (.iconst 1, 1) := by decide +kernel
theorem d_La_font_15 : decode c_yLa_font 15 = .ok (.ireturn, 1) := by decide +kernel
theorem d_La_font_16 : decode c_yLa_font 16 = .ok (.iconst 0, 1) := by decide +kernel
theorem d_La_font_17 : decode c_yLa_font 17 = .ok (.ireturn, 1) := by decide +kernel
set_option maxHeartbeats 4000000 in
set_option maxRecDepth 100000 in
theorem c_Law_font (l : Launch) (hnt : l.stackTraces = false) (dC : Nat → ClassId) (dI : Nat → Nat → Nat) (sa : Nat → Nat) (hx_ hp hst hd hfa : Nat) (cF : ClassId) (Fq : Int → Option Nat) (hf hrw : Nat) (cI : ClassId) (fw fh fg : Int) (X : Int → Int32) (f a b g : Int) (sz : Nat) (hq : 0 ≤ f ∧ f ≤ 3 → Fq f = some hf) (f1 : -2147483648 ≤ f) (a1 : -2147483648 ≤ a) (b1 : -2147483648 ≤ b) (g1 : -2147483648 ≤ g) (f2 : f ≤ 2147483647) (a2 : a ≤ 2147483647) (b2 : b ≤ 2147483647) (g2 : g ≤ 2147483647) : Met l y_La_font w_La_font ({ frames := 8, cells := 2, slots := 12, locals := 144 }) (va_Pc [.ref hx_, .int (iZ f), .int (iZ a), .int (iZ b), .int (iZ g)] (zPy (dC, dI) vwCl [(hx_, .inr (4, [.ref hp, .ref hst, .ref hd, .ref hfa])), (hfa, .inl (cF, 4, .inr (.inr (.inr (.inr (aQ Fq)))))), (hf, .inr (1, [.int (iZ fw), .int (iZ fh), .int (iZ fg), .ref hrw])), (hrw, .inl (cI, 8192, .inl (aI X)))] [(cF, .object "DotSheet$Font"), (cI, .int)] sz sa)) (va_Qi (fun (r : Int32) (u : Int × Int × Int × (Int → Int32)) => ∃ k : Int, r = iZ k ∧ ((k = 0 ∧ ∃ (u9 : Int → Int32), ((0 ≤ f ∧ f ≤ 3 ∧ 1 ≤ a ∧ a ≤ 32 ∧ 1 ≤ b ∧ b ≤ 32 ∧ 0 ≤ g ∧ g ≤ 32) ∧ ∀ i : Int, 0 ≤ i → i < 8192 → u9 i = iZ 0) ∧ u.1 = a ∧ u.2.1 = b ∧ u.2.2.1 = g ∧ u.2.2.2 = u9) ∨ ((k = 1 ∧ ¬ (0 ≤ f ∧ f ≤ 3 ∧ 1 ≤ a ∧ a ≤ 32 ∧ 1 ≤ b ∧ b ≤ 32 ∧ 0 ≤ g ∧ g ≤ 32)) ∧ u.1 = fw ∧ u.2.1 = fh ∧ u.2.2.1 = fg ∧ u.2.2.2 = X))) (fun u => zB (dC, dI) vwCl [(cF, .object "DotSheet$Font"), (cI, .int)] (va_A [(hx_, .inr (4, [.ref hp, .ref hst, .ref hd, .ref hfa])), (hfa, .inl (cF, 4, .inr (.inr (.inr (.inr (aQ Fq)))))), (hf, .inr (1, [.int (iZ fw), .int (iZ fh), .int (iZ fg), .ref hrw])), (hrw, .inl (cI, 8192, .inl (aI X)))] sz) [(hx_, .inr (4, [.ref hp, .ref hst, .ref hd, .ref hfa])), (hfa, .inl (cF, 4, .inr (.inr (.inr (.inr (aQ Fq)))))), (hf, .inr (1, [.int (iZ u.1), .int (iZ u.2.1), .int (iZ u.2.2.1), .ref hrw])), (hrw, .inl (cI, 8192, .inl (aI u.2.2.2)))]) (va_A [(hx_, .inr (4, [.ref hp, .ref hst, .ref hd, .ref hfa])), (hfa, .inl (cF, 4, .inr (.inr (.inr (.inr (aQ Fq)))))), (hf, .inr (1, [.int (iZ fw), .int (iZ fh), .int (iZ fg), .ref hrw])), (hrw, .inl (cI, 8192, .inl (aI X)))] sz)) 2 12 (va_A [(hx_, .inr (4, [.ref hp, .ref hst, .ref hd, .ref hfa])), (hfa, .inl (cF, 4, .inr (.inr (.inr (.inr (aQ Fq)))))), (hf, .inr (1, [.int (iZ fw), .int (iZ fh), .int (iZ fg), .ref hrw])), (hrw, .inl (cI, 8192, .inl (aI X)))] sz) := by
  refine va_MetW (cc := c_yLa_font) (maxL := 6) (ret := (some .int)) (hh := [((0 : Nat), (9 : Nat), (12 : Nat), (13 : Nat))]) (by decide) rfl ?_
  intro p e s m args below meth c s₁ B hml hv
  obtain ⟨rfl, ⟨hsz, hP, hK, hD0, hXK⟩, hyN⟩ := hv
  have hx := B.exec
  have hb := B.bytes
  have hr := B.returns
  have hts0 := atoms_spec (ws := w_La_font) B.pre
  have hts : ∀ w ∈ gT, w.before _ s = true := fun w h => hts0 w (List.mem_cons_of_mem _ h)
  have hown : s.vm.findClass R_La = some m.cls := findClass_of_methodNamed B.named
  have hlocks := B.notSynchronized
  have htb : c.exceptionTable.toList = tableOf ([((0 : Nat), (9 : Nat), (12 : Nat), (13 : Nat))]) := vx_table (x := y_La_font) B (hts0 _ List.mem_cons_self)
  subst hsz
  have hD := hD0.self (sz := s.heap.size)
  generalize hAe : va_A [(hx_, .inr (4, [.ref hp, .ref hst, .ref hd, .ref hfa])), (hfa, .inl (cF, 4, .inr (.inr (.inr (.inr (aQ Fq)))))), (hf, .inr (1, [.int (iZ fw), .int (iZ fh), .int (iZ fg), .ref hrw])), (hrw, .inl (cI, 8192, .inl (aI X)))] s.heap.size = A at hD hXK ⊢
  have hA : ∀ q : Nat, s.heap.size ≤ q → A q := fun q h => by rw [← hAe]; exact Or.inr h
  obtain ⟨H, hH⟩ : ∃ H, s.heap = H := ⟨_, rfl⟩
  have hS : va_S A s.heap H [] := by rw [← hH]; exact va_S.rf
  rw [hH] at hP
  rw [hH]
  have hl := lv_entry ([.ref hx_, .int (iZ f), .int (iZ a), .int (iZ b), .int (iZ g)]) (n := 6) (Nat.le_of_ble_eq_true rfl)
  rw [lg_entry_eq]
  generalize (lg_sl ([.ref hx_, .int (iZ f), .int (iZ a), .int (iZ b), .int (iZ g)]) ++ List.replicate (6 - (lg_sl ([.ref hx_, .int (iZ f), .int (iZ a), .int (iZ b), .int (iZ g)])).length) Slot.unset).toArray = ls at hl ⊢
  have hl : lv_has ls 6 [(0, .ref hx_), (1, .int (iZ f)), (2, .int (iZ a)), (3, .int (iZ b)), (4, .int (iZ g))] := hl
  refine lv_aload_n hx hb d_La_font_0 rfl (lv_at hl 0 rfl) ?_
  refine lv_iload_n hx hb d_La_font_1 rfl (lv_at hl 1 rfl) ?_
  refine lv_iload_n hx hb d_La_font_2 rfl (lv_at hl 2 rfl) ?_
  refine lv_iload_n hx hb d_La_font_3 rfl (lv_at hl 3 rfl) ?_
  refine lv_iload hx hb d_La_font_4 (lv_at hl 4 rfl) ?_
  refine zx_v (w1 := fun (u_6 : Int → Int32) => [(hx_, .inr (4, [.ref hp, .ref hst, .ref hd, .ref hfa])), (hfa, .inl (cF, 4, .inr (.inr (.inr (.inr (aQ Fq)))))), (hf, .inr (1, [.int (iZ a), .int (iZ b), .int (iZ g), .ref hrw])), (hrw, .inl (cI, 8192, .inl (aI u_6)))]) (wr := []) (vx_runV (As := [.int (iZ f), .int (iZ a), .int (iZ b), .int (iZ g)]) (rest := []) ⟨hx, hb, hml, hown, hts⟩ (c_DotSheet_font l hnt dC dI sa hx_ hp hst hd hfa cF Fq _ hrw cI fw fh fg X f a b g H.size (by first | omega | assumption) (by first | omega | assumption) (by first | omega | assumption) (by first | omega | assumption) (by first | omega | assumption) (by first | omega | assumption) (by first | omega | assumption) (by first | omega | assumption) (by first | omega | assumption)) (cwV 4 hts (gV t_418 t_419 t_420 t_1 t_421) rfl rfl rfl (by decide +kernel) ⟨Nat.le_of_ble_eq_true rfl, Nat.le_of_ble_eq_true rfl⟩) ⟨zPx_blind, va_recv hK hP (ci := 4) (q0 := 0) rfl rfl, zPx_pre hP hD hK hXK hS hA [0, 1, 2, 3] [0, 1] rfl rfl rfl rfl⟩ rfl rfl hl.1 rfl (lv_room (Nat.le_of_ble_eq_true rfl)) d_La_font_6 ⟨Nat.le_of_ble_eq_true rfl, Nat.le_of_ble_eq_true rfl⟩) hP hD hS hA [0, 1, 2, 3] [] rfl rfl rfl (by decide) (fun E_ ce_ q9_ H locs x_6 hP hD hS hce hcv hcl => ?_) (fun u_6 H locs q_6 hP hD hS => ?_)
  · have hP : va_P (dC, dI) vwCl [(hx_, .inr (4, [.ref hp, .ref hst, .ref hd, .ref hfa])), (hfa, .inl (cF, 4, .inr (.inr (.inr (.inr (aQ Fq)))))), (hf, .inr (1, [.int (iZ fw), .int (iZ fh), .int (iZ fg), .ref hrw])), (hrw, .inl (cI, 8192, .inl (aI X)))] H := hP
    have hD : va_D A [(hx_, .inr (4, [.ref hp, .ref hst, .ref hd, .ref hfa])), (hfa, .inl (cF, 4, .inr (.inr (.inr (.inr (aQ Fq)))))), (hf, .inr (1, [.int (iZ fw), .int (iZ fh), .int (iZ fg), .ref hrw])), (hrw, .inl (cI, 8192, .inl (aI X)))] := hD
    obtain ⟨rfl, x_6⟩ := x_6
    refine vx_catch (own := R_La) (name := "java/lang/IllegalArgumentException") hown [] ⟨0, 9, 12, 13⟩ [] htb (fun z hz => nomatch hz) (by decide) (by decide) (hts _ t_146) (va_Nw.use rfl (hXK.1 _ xc_A)) hce hcv hcl ?_
    refine lv_astore (lv' := [(5, .ref q9_), (0, .ref hx_), (1, .int (iZ f)), (2, .int (iZ a)), (3, .int (iZ b)), (4, .int (iZ g))]) hx hb d_La_font_12 hl (by decide) rfl (fun ls hl => ?_)
    refine lv_iconst (v := iZ (1)) hx hb d_La_font_14 rfl ?_
    exact W.iret hx hb hr (fun t9_ ht hW => ⟨⟨_, ((fw, fh, fg, X)), rfl, ⟨1, rfl, Or.inr ⟨⟨rfl, x_6⟩, rfl, rfl, rfl, rfl⟩⟩, by rw [ht]; exact hP, va_K.moved hW.alike hK, hD⟩, hS.F ht⟩) hS.2.2 d_La_font_15
  have hP : va_P (dC, dI) vwCl [(hx_, .inr (4, [.ref hp, .ref hst, .ref hd, .ref hfa])), (hfa, .inl (cF, 4, .inr (.inr (.inr (.inr (aQ Fq)))))), (hf, .inr (1, [.int (iZ a), .int (iZ b), .int (iZ g), .ref hrw])), (hrw, .inl (cI, 8192, .inl (aI u_6)))] H := hP
  have hD : va_D A [(hx_, .inr (4, [.ref hp, .ref hst, .ref hd, .ref hfa])), (hfa, .inl (cF, 4, .inr (.inr (.inr (.inr (aQ Fq)))))), (hf, .inr (1, [.int (iZ a), .int (iZ b), .int (iZ g), .ref hrw])), (hrw, .inl (cI, 8192, .inl (aI u_6)))] := hD
  refine lv_goto (tgt := 16) hx hb d_La_font_9 (by decide) ?_
  refine lv_iconst (v := iZ (0)) hx hb d_La_font_16 rfl ?_
  exact W.iret hx hb hr (fun t9_ ht hW => ⟨⟨_, ((a, b, g, u_6)), rfl, ⟨0, rfl, Or.inl ⟨rfl, u_6, q_6, rfl, rfl, rfl, rfl⟩⟩, by rw [ht]; exact hP, va_K.moved hW.alike hK, hD⟩, hS.F ht⟩) hS.2.2 d_La_font_17
theorem d_La_cell_0 : decode c_yLa_cell 0 = .ok (.aload_n 0, 1) := by decide +kernel
theorem d_La_cell_1 : decode c_yLa_cell 1 = .ok (.iload_n 1, 1) := by decide +kernel
theorem d_La_cell_2 : decode c_yLa_cell 2 = .ok (.iload_n 2, 1) := by decide +kernel
theorem d_La_cell_3 : decode c_yLa_cell 3 = .ok (.iload_n 3, 1) := by decide +kernel
theorem d_La_cell_4 : decode c_yLa_cell 4 = .ok (.iload 4, 2) := by decide +kernel
theorem d_La_cell_6 : decode c_yLa_cell 6 = .ok (.invokevirtual 37, 3) := by decide +kernel
theorem d_La_cell_9 : decode c_yLa_cell 9 = .ok (.goto 11, 3) := by decide +kernel
theorem d_La_cell_12 : decode c_yLa_cell 12 = .ok (.astore 5, 2) := by decide +kernel
theorem d_La_cell_14 : decode c_yLa_cell 14 = .ok (.iconst 1, 1) := by decide +kernel
theorem d_La_cell_15 : decode c_yLa_cell 15 = .ok (.ireturn, 1) := by decide +kernel
theorem d_La_cell_16 : decode c_yLa_cell 16 = .ok (.astore 5, 2) := by decide +kernel
theorem d_La_cell_18 : decode c_yLa_cell 18 = .ok (.iconst 2, 1) := by decide +kernel
theorem d_La_cell_19 : decode c_yLa_cell 19 = .ok (.ireturn, 1) := by decide +kernel
theorem d_La_cell_20 : decode c_yLa_cell 20 = .ok (.iconst 0, 1) := by decide +kernel
theorem d_La_cell_21 : decode c_yLa_cell 21 = .ok (.ireturn, 1) := by decide +kernel
set_option maxHeartbeats 4000000 in
set_option maxRecDepth 100000 in
theorem c_Law_cell (l : Launch) (hnt : l.stackTraces = false) (dC : Nat → ClassId) (dI : Nat → Nat → Nat) (sa : Nat → Nat) (hx_ hp hst hd hfa : Nat) (cF : ClassId) (Fq : Int → Option Nat) (hf hrw : Nat) (cI : ClassId) (fw fh fg : Int) (X : Int → Int32) (f cd r0 : Int) (bits : Int32) (sz : Nat) (hq : 0 ≤ f ∧ f ≤ 3 → Fq f = some hf) (fh1 : 1 ≤ fh) (fh2 : fh ≤ 32) (f1 : -2147483648 ≤ f) (cd1 : -2147483648 ≤ cd) (r01 : -2147483648 ≤ r0) (f2 : f ≤ 2147483647) (cd2 : cd ≤ 2147483647) (r02 : r0 ≤ 2147483647) : Met l y_La_cell w_La_cell ({ frames := 8, cells := 2, slots := 12, locals := 144 }) (va_Pc [.ref hx_, .int (iZ f), .int (iZ cd), .int (iZ r0), .int bits] (zPy (dC, dI) vwCl [(hx_, .inr (4, [.ref hp, .ref hst, .ref hd, .ref hfa])), (hfa, .inl (cF, 4, .inr (.inr (.inr (.inr (aQ Fq)))))), (hf, .inr (1, [.int (iZ fw), .int (iZ fh), .int (iZ fg), .ref hrw])), (hrw, .inl (cI, 8192, .inl (aI X)))] [(cF, .object "DotSheet$Font"), (cI, .int)] sz sa)) (va_Qi (fun (r : Int32) (u : (Int → Int32)) => ∃ k : Int, r = iZ k ∧ ((k = 0 ∧ ∃ (u9 : Int → Int32), ((0 ≤ f ∧ f ≤ 3 ∧ 0 ≤ cd ∧ cd ≤ 255) ∧ (0 ≤ r0 ∧ r0 ≤ fh - 1) ∧ u9 = upZ X (cd * 32 + r0) bits) ∧ u = u9) ∨ (((k = 1 ∧ ¬ (0 ≤ f ∧ f ≤ 3 ∧ 0 ≤ cd ∧ cd ≤ 255)) ∨ (k = 2 ∧ (0 ≤ f ∧ f ≤ 3 ∧ 0 ≤ cd ∧ cd ≤ 255) ∧ ¬ (0 ≤ r0 ∧ r0 ≤ fh - 1))) ∧ u = X))) (fun u => zB (dC, dI) vwCl [(cF, .object "DotSheet$Font"), (cI, .int)] (va_A [(hx_, .inr (4, [.ref hp, .ref hst, .ref hd, .ref hfa])), (hfa, .inl (cF, 4, .inr (.inr (.inr (.inr (aQ Fq)))))), (hf, .inr (1, [.int (iZ fw), .int (iZ fh), .int (iZ fg), .ref hrw])), (hrw, .inl (cI, 8192, .inl (aI X)))] sz) [(hx_, .inr (4, [.ref hp, .ref hst, .ref hd, .ref hfa])), (hfa, .inl (cF, 4, .inr (.inr (.inr (.inr (aQ Fq)))))), (hf, .inr (1, [.int (iZ fw), .int (iZ fh), .int (iZ fg), .ref hrw])), (hrw, .inl (cI, 8192, .inl (aI u)))]) (va_A [(hx_, .inr (4, [.ref hp, .ref hst, .ref hd, .ref hfa])), (hfa, .inl (cF, 4, .inr (.inr (.inr (.inr (aQ Fq)))))), (hf, .inr (1, [.int (iZ fw), .int (iZ fh), .int (iZ fg), .ref hrw])), (hrw, .inl (cI, 8192, .inl (aI X)))] sz)) 2 12 (va_A [(hx_, .inr (4, [.ref hp, .ref hst, .ref hd, .ref hfa])), (hfa, .inl (cF, 4, .inr (.inr (.inr (.inr (aQ Fq)))))), (hf, .inr (1, [.int (iZ fw), .int (iZ fh), .int (iZ fg), .ref hrw])), (hrw, .inl (cI, 8192, .inl (aI X)))] sz) := by
  refine va_MetW (cc := c_yLa_cell) (maxL := 6) (ret := (some .int)) (hh := [((0 : Nat), (9 : Nat), (12 : Nat), (13 : Nat)), ((0 : Nat), (9 : Nat), (16 : Nat), (40 : Nat))]) (by decide) rfl ?_
  intro p e s m args below meth c s₁ B hml hv
  obtain ⟨rfl, ⟨hsz, hP, hK, hD0, hXK⟩, hyN⟩ := hv
  have hx := B.exec
  have hb := B.bytes
  have hr := B.returns
  have hts0 := atoms_spec (ws := w_La_cell) B.pre
  have hts : ∀ w ∈ gT, w.before _ s = true := fun w h => hts0 w (List.mem_cons_of_mem _ h)
  have hown : s.vm.findClass R_La = some m.cls := findClass_of_methodNamed B.named
  have hlocks := B.notSynchronized
  have htb : c.exceptionTable.toList = tableOf ([((0 : Nat), (9 : Nat), (12 : Nat), (13 : Nat)), ((0 : Nat), (9 : Nat), (16 : Nat), (40 : Nat))]) := vx_table (x := y_La_cell) B (hts0 _ List.mem_cons_self)
  subst hsz
  have hD := hD0.self (sz := s.heap.size)
  generalize hAe : va_A [(hx_, .inr (4, [.ref hp, .ref hst, .ref hd, .ref hfa])), (hfa, .inl (cF, 4, .inr (.inr (.inr (.inr (aQ Fq)))))), (hf, .inr (1, [.int (iZ fw), .int (iZ fh), .int (iZ fg), .ref hrw])), (hrw, .inl (cI, 8192, .inl (aI X)))] s.heap.size = A at hD hXK ⊢
  have hA : ∀ q : Nat, s.heap.size ≤ q → A q := fun q h => by rw [← hAe]; exact Or.inr h
  obtain ⟨H, hH⟩ : ∃ H, s.heap = H := ⟨_, rfl⟩
  have hS : va_S A s.heap H [] := by rw [← hH]; exact va_S.rf
  rw [hH] at hP
  rw [hH]
  have hl := lv_entry ([.ref hx_, .int (iZ f), .int (iZ cd), .int (iZ r0), .int bits]) (n := 6) (Nat.le_of_ble_eq_true rfl)
  rw [lg_entry_eq]
  generalize (lg_sl ([.ref hx_, .int (iZ f), .int (iZ cd), .int (iZ r0), .int bits]) ++ List.replicate (6 - (lg_sl ([.ref hx_, .int (iZ f), .int (iZ cd), .int (iZ r0), .int bits])).length) Slot.unset).toArray = ls at hl ⊢
  have hl : lv_has ls 6 [(0, .ref hx_), (1, .int (iZ f)), (2, .int (iZ cd)), (3, .int (iZ r0)), (4, .int bits)] := hl
  refine lv_aload_n hx hb d_La_cell_0 rfl (lv_at hl 0 rfl) ?_
  refine lv_iload_n hx hb d_La_cell_1 rfl (lv_at hl 1 rfl) ?_
  refine lv_iload_n hx hb d_La_cell_2 rfl (lv_at hl 2 rfl) ?_
  refine lv_iload_n hx hb d_La_cell_3 rfl (lv_at hl 3 rfl) ?_
  refine lv_iload hx hb d_La_cell_4 (lv_at hl 4 rfl) ?_
  refine zx_v (w1 := fun (u_6 : Int → Int32) => [(hx_, .inr (4, [.ref hp, .ref hst, .ref hd, .ref hfa])), (hfa, .inl (cF, 4, .inr (.inr (.inr (.inr (aQ Fq)))))), (hf, .inr (1, [.int (iZ fw), .int (iZ fh), .int (iZ fg), .ref hrw])), (hrw, .inl (cI, 8192, .inl (aI u_6)))]) (wr := []) (vx_runV (As := [.int (iZ f), .int (iZ cd), .int (iZ r0), .int bits]) (rest := []) ⟨hx, hb, hml, hown, hts⟩ (c_DotSheet_cell l hnt dC dI sa hx_ hp hst hd hfa cF Fq _ hrw cI fw fh fg X f cd r0 bits H.size (by first | omega | assumption) (by first | omega | assumption) (by first | omega | assumption) (by first | omega | assumption) (by first | omega | assumption) (by first | omega | assumption) (by first | omega | assumption) (by first | omega | assumption) (by first | omega | assumption)) (cwV 4 hts (gV t_436 t_437 t_438 t_1 t_439) rfl rfl rfl (by decide +kernel) ⟨Nat.le_of_ble_eq_true rfl, Nat.le_of_ble_eq_true rfl⟩) ⟨zPx_blind, va_recv hK hP (ci := 4) (q0 := 0) rfl rfl, zPx_pre hP hD hK hXK hS hA [0, 1, 2, 3] [0, 1] rfl rfl rfl rfl⟩ rfl rfl hl.1 rfl (lv_room (Nat.le_of_ble_eq_true rfl)) d_La_cell_6 ⟨Nat.le_of_ble_eq_true rfl, Nat.le_of_ble_eq_true rfl⟩) hP hD hS hA [0, 1, 2, 3] [] rfl rfl rfl (by decide) (fun E_ ce_ q9_ H locs x_6 hP hD hS hce hcv hcl => ?_) (fun u_6 H locs q_6 hP hD hS => ?_)
  · have hP : va_P (dC, dI) vwCl [(hx_, .inr (4, [.ref hp, .ref hst, .ref hd, .ref hfa])), (hfa, .inl (cF, 4, .inr (.inr (.inr (.inr (aQ Fq)))))), (hf, .inr (1, [.int (iZ fw), .int (iZ fh), .int (iZ fg), .ref hrw])), (hrw, .inl (cI, 8192, .inl (aI X)))] H := hP
    have hD : va_D A [(hx_, .inr (4, [.ref hp, .ref hst, .ref hd, .ref hfa])), (hfa, .inl (cF, 4, .inr (.inr (.inr (.inr (aQ Fq)))))), (hf, .inr (1, [.int (iZ fw), .int (iZ fh), .int (iZ fg), .ref hrw])), (hrw, .inl (cI, 8192, .inl (aI X)))] := hD
    rcases x_6 with ⟨rfl, x_6⟩ | ⟨rfl, x_6⟩
    · refine vx_catch (own := R_La) (name := "java/lang/IllegalArgumentException") hown [] ⟨0, 9, 12, 13⟩ [⟨0, 9, 16, 40⟩] htb (fun z hz => nomatch hz) (by decide) (by decide) (hts _ t_146) (va_Nw.use rfl (hXK.1 _ xc_A)) hce hcv hcl ?_
      refine lv_astore (lv' := [(5, .ref q9_), (0, .ref hx_), (1, .int (iZ f)), (2, .int (iZ cd)), (3, .int (iZ r0)), (4, .int bits)]) hx hb d_La_cell_12 hl (by decide) rfl (fun ls hl => ?_)
      refine lv_iconst (v := iZ (1)) hx hb d_La_cell_14 rfl ?_
      exact W.iret hx hb hr (fun t9_ ht hW => ⟨⟨_, X, rfl, ⟨1, rfl, Or.inr ⟨Or.inl ⟨rfl, x_6⟩, rfl⟩⟩, by rw [ht]; exact hP, va_K.moved hW.alike hK, hD⟩, hS.F ht⟩) hS.2.2 d_La_cell_15
    · refine vx_catch (own := R_La) (name := "java/lang/IndexOutOfBoundsException") hown [⟨0, 9, 12, 13⟩] ⟨0, 9, 16, 40⟩ [] htb (fun z hz => by cases List.mem_singleton.mp hz; exact Or.inr ⟨by decide, _, hts _ t_146, hyN.1⟩) (by decide) (by decide) (hts _ t_435) (va_Nw.use rfl (hXK.1 _ xc_B)) hce hcv hcl ?_
      refine lv_astore (lv' := [(5, .ref q9_), (0, .ref hx_), (1, .int (iZ f)), (2, .int (iZ cd)), (3, .int (iZ r0)), (4, .int bits)]) hx hb d_La_cell_16 hl (by decide) rfl (fun ls hl => ?_)
      refine lv_iconst (v := iZ (2)) hx hb d_La_cell_18 rfl ?_
      exact W.iret hx hb hr (fun t9_ ht hW => ⟨⟨_, X, rfl, ⟨2, rfl, Or.inr ⟨Or.inr ⟨rfl, x_6⟩, rfl⟩⟩, by rw [ht]; exact hP, va_K.moved hW.alike hK, hD⟩, hS.F ht⟩) hS.2.2 d_La_cell_19
  have hP : va_P (dC, dI) vwCl [(hx_, .inr (4, [.ref hp, .ref hst, .ref hd, .ref hfa])), (hfa, .inl (cF, 4, .inr (.inr (.inr (.inr (aQ Fq)))))), (hf, .inr (1, [.int (iZ fw), .int (iZ fh), .int (iZ fg), .ref hrw])), (hrw, .inl (cI, 8192, .inl (aI u_6)))] H := hP
  have hD : va_D A [(hx_, .inr (4, [.ref hp, .ref hst, .ref hd, .ref hfa])), (hfa, .inl (cF, 4, .inr (.inr (.inr (.inr (aQ Fq)))))), (hf, .inr (1, [.int (iZ fw), .int (iZ fh), .int (iZ fg), .ref hrw])), (hrw, .inl (cI, 8192, .inl (aI u_6)))] := hD
  refine lv_goto (tgt := 20) hx hb d_La_cell_9 (by decide) ?_
  refine lv_iconst (v := iZ (0)) hx hb d_La_cell_20 rfl ?_
  exact W.iret hx hb hr (fun t9_ ht hW => ⟨⟨_, u_6, rfl, ⟨0, rfl, Or.inl ⟨rfl, u_6, q_6, rfl⟩⟩, by rw [ht]; exact hP, va_K.moved hW.alike hK, hD⟩, hS.F ht⟩) hS.2.2 d_La_cell_21
theorem d_La_text_0 : decode c_yLa_text 0 = .ok (.aload 6, 2) := by decide +kernel
theorem d_La_text_2 : decode c_yLa_text 2 = .ok (.iconst 0, 1) := by decide +kernel
theorem d_La_text_3 : decode c_yLa_text 3 = .ok (.aload_n 0, 1) := by decide +kernel
theorem d_La_text_4 : decode c_yLa_text 4 = .ok (.iload_n 1, 1) := by decide +kernel
theorem d_La_text_5 : decode c_yLa_text 5 = .ok (.iload_n 2, 1) := by decide +kernel
theorem d_La_text_6 : decode c_yLa_text 6 = .ok (.iload_n 3, 1) := by decide +kernel
theorem d_La_text_7 : decode c_yLa_text 7 = .ok (.iload 4, 2) := by decide +kernel
theorem d_La_text_9 : decode c_yLa_text 9 = .ok (.iload 5, 2) := by decide +kernel
theorem d_La_text_11 : decode c_yLa_text 11 = .ok (.invokevirtual 42, 3) := by decide +kernel
theorem d_La_text_14 : decode c_yLa_text 14 = .ok (.i2l, 1) := by decide +kernel
theorem d_La_text_15 : decode c_yLa_text 15 = .ok (.lastore, 1) := by decide +kernel
theorem d_La_text_16 : decode c_yLa_text 16 = .ok (.goto 7, 3) := by decide +kernel
theorem d_La_text_19 : decode c_yLa_text 19 = .ok (.astore 7, 2) := by decide +kernel
theorem d_La_text_21 : decode c_yLa_text 21 = .ok (.iconst 1, 1) := by decide +kernel
theorem d_La_text_22 : decode c_yLa_text 22 = .ok (.ireturn, 1) := by decide +kernel
theorem d_La_text_23 : decode c_yLa_text 23 = .ok (.iconst 0, 1) := by decide +kernel
theorem d_La_text_24 : decode c_yLa_text 24 = .ok (.ireturn, 1) := by decide +kernel
set_option maxHeartbeats 4000000 in
set_option maxRecDepth 100000 in
theorem c_Law_text (l : Launch) (hnt : l.stackTraces = false) (dC : Nat → ClassId) (dI : Nat → Nat → Nat) (sa : Nat → Nat) (hx_ hst hd hfa hp hw hs hk : Nat) (cL : ClassId) (w h mn : Int) (G : Int → Int64) (pic : Int → Int → Bool) (hy : Nat) (cB : ClassId) (n : Int) (Y : Int → Int32) (dr : Int → Int) (sx sy sq sl sp sr sb : Int) (cF : ClassId) (Fq : Int → Option Nat) (hf hrw : Nat) (cI : ClassId) (fw fh fg : Int) (X : Int → Int32) (x y f sc qr : Int) (ho : Nat) (O : Int → Int64) (sz : Nat) (w1 : 1 ≤ w) (w2 : w ≤ 1024) (h1 : 1 ≤ h) (h2 : h ≤ 1024) (mn1 : 0 ≤ mn) (mn2 : mn ≤ 2) (hR : Rep G pic) (n1 : 0 ≤ n) (n2 : n ≤ 4096) (hY : RepD Y n dr) (f1 : 1 ≤ fw) (f2 : fw ≤ 32) (fh1 : 1 ≤ fh) (fh2 : fh ≤ 32) (fg1 : 0 ≤ fg) (fg2 : fg ≤ 32) (hq : 0 ≤ f ∧ f ≤ 3 → Fq f = some hf) (x1 : -2147483648 ≤ x) (y1 : -2147483648 ≤ y) (f1 : -2147483648 ≤ f) (sc1 : -2147483648 ≤ sc) (qr1 : -2147483648 ≤ qr) (x2 : x ≤ 2147483647) (y2 : y ≤ 2147483647) (f2 : f ≤ 2147483647) (sc2 : sc ≤ 2147483647) (qr2 : qr ≤ 2147483647) : Met l y_La_text w_La_text ({ frames := 9, cells := 3, slots := 18, locals := 173 }) (va_Pc [.ref hx_, .int (iZ x), .int (iZ y), .int (iZ f), .int (iZ sc), .int (iZ qr), .ref ho] (zPy (dC, dI) vwCl [(hx_, .inr (4, [.ref hp, .ref hst, .ref hd, .ref hfa])), (hp, .inr (2, [.int (iZ w), .int (iZ h), .int (iZ mn), .ref hw, .ref hs, .ref hk])), (hw, .inl (cL, 16384, .inr (.inl (aL G)))), (hd, .inr (0, [.int (iZ n), .ref hy])), (hy, .inl (cB, 4096, .inl (aI Y))), (hst, .inr (3, [.ref hp, .int (iZ sx), .int (iZ sy), .int (iZ sq), .int (iZ sl), .int (iZ sp), .int (iZ sr), .int (iZ sb)])), (hfa, .inl (cF, 4, .inr (.inr (.inr (.inr (aQ Fq)))))), (hf, .inr (1, [.int (iZ fw), .int (iZ fh), .int (iZ fg), .ref hrw])), (hrw, .inl (cI, 8192, .inl (aI X))), (ho, .inl (cL, 1, .inr (.inl (aL O))))] [(cL, .long), (cB, .byte), (cF, .object "DotSheet$Font"), (cI, .int)] sz sa)) (va_Qi (fun (r : Int32) (u : (Int → Int64) × Int × Int × Int × Int × Int × Int × Int × (Int → Int64)) => ∃ k : Int, r = iZ k ∧ ((k = 0 ∧ ∃ (r9 : Int32) (u9 : (Int → Int64) × Int × Int × Int × Int), (r9 = iZ (cnt w h (txB X dr n fw fh fg (sc / 16) (sc % 16) qr x y)) ∧ (-4096 ≤ x ∧ x ≤ 4096 ∧ -4096 ≤ y ∧ y ≤ 4096 ∧ 0 ≤ qr ∧ qr ≤ 3 ∧ 0 ≤ f ∧ f ≤ 3 ∧ 0 ≤ sc ∧ sc ≤ 255 ∧ 1 ≤ sc / 16 ∧ sc / 16 ≤ 10 ∧ 1 ≤ sc % 16 ∧ sc % 16 ≤ 10) ∧ Rep u9.1 (drw mn (fun px py => onB w h px py && txB X dr n fw fh fg (sc / 16) (sc % 16) qr x y px py) pic)) ∧ u.1 = u9.1 ∧ u.2.1 = x ∧ u.2.2.1 = y ∧ u.2.2.2.1 = qr ∧ u.2.2.2.2.1 = u9.2.1 ∧ u.2.2.2.2.2.1 = u9.2.2.1 ∧ u.2.2.2.2.2.2.1 = u9.2.2.2.1 ∧ u.2.2.2.2.2.2.2.1 = u9.2.2.2.2 ∧ u.2.2.2.2.2.2.2.2 0 = r9.toInt64) ∨ ((k = 1 ∧ ¬ (-4096 ≤ x ∧ x ≤ 4096 ∧ -4096 ≤ y ∧ y ≤ 4096 ∧ 0 ≤ qr ∧ qr ≤ 3 ∧ 0 ≤ f ∧ f ≤ 3 ∧ 0 ≤ sc ∧ sc ≤ 255 ∧ 1 ≤ sc / 16 ∧ sc / 16 ≤ 10 ∧ 1 ≤ sc % 16 ∧ sc % 16 ≤ 10)) ∧ u.1 = G ∧ u.2.1 = sx ∧ u.2.2.1 = sy ∧ u.2.2.2.1 = sq ∧ u.2.2.2.2.1 = sl ∧ u.2.2.2.2.2.1 = sp ∧ u.2.2.2.2.2.2.1 = sr ∧ u.2.2.2.2.2.2.2.1 = sb))) (fun u => zB (dC, dI) vwCl [(cL, .long), (cB, .byte), (cF, .object "DotSheet$Font"), (cI, .int)] (va_A [(hx_, .inr (4, [.ref hp, .ref hst, .ref hd, .ref hfa])), (hp, .inr (2, [.int (iZ w), .int (iZ h), .int (iZ mn), .ref hw, .ref hs, .ref hk])), (hw, .inl (cL, 16384, .inr (.inl (aL G)))), (hd, .inr (0, [.int (iZ n), .ref hy])), (hy, .inl (cB, 4096, .inl (aI Y))), (hst, .inr (3, [.ref hp, .int (iZ sx), .int (iZ sy), .int (iZ sq), .int (iZ sl), .int (iZ sp), .int (iZ sr), .int (iZ sb)])), (hfa, .inl (cF, 4, .inr (.inr (.inr (.inr (aQ Fq)))))), (hf, .inr (1, [.int (iZ fw), .int (iZ fh), .int (iZ fg), .ref hrw])), (hrw, .inl (cI, 8192, .inl (aI X))), (ho, .inl (cL, 1, .inr (.inl (aL O))))] sz) [(hx_, .inr (4, [.ref hp, .ref hst, .ref hd, .ref hfa])), (hp, .inr (2, [.int (iZ w), .int (iZ h), .int (iZ mn), .ref hw, .ref hs, .ref hk])), (hw, .inl (cL, 16384, .inr (.inl (aL u.1)))), (hd, .inr (0, [.int (iZ n), .ref hy])), (hy, .inl (cB, 4096, .inl (aI Y))), (hst, .inr (3, [.ref hp, .int (iZ u.2.1), .int (iZ u.2.2.1), .int (iZ u.2.2.2.1), .int (iZ u.2.2.2.2.1), .int (iZ u.2.2.2.2.2.1), .int (iZ u.2.2.2.2.2.2.1), .int (iZ u.2.2.2.2.2.2.2.1)])), (hfa, .inl (cF, 4, .inr (.inr (.inr (.inr (aQ Fq)))))), (hf, .inr (1, [.int (iZ fw), .int (iZ fh), .int (iZ fg), .ref hrw])), (hrw, .inl (cI, 8192, .inl (aI X))), (ho, .inl (cL, 1, .inr (.inl (aL u.2.2.2.2.2.2.2.2))))]) (va_A [(hx_, .inr (4, [.ref hp, .ref hst, .ref hd, .ref hfa])), (hp, .inr (2, [.int (iZ w), .int (iZ h), .int (iZ mn), .ref hw, .ref hs, .ref hk])), (hw, .inl (cL, 16384, .inr (.inl (aL G)))), (hd, .inr (0, [.int (iZ n), .ref hy])), (hy, .inl (cB, 4096, .inl (aI Y))), (hst, .inr (3, [.ref hp, .int (iZ sx), .int (iZ sy), .int (iZ sq), .int (iZ sl), .int (iZ sp), .int (iZ sr), .int (iZ sb)])), (hfa, .inl (cF, 4, .inr (.inr (.inr (.inr (aQ Fq)))))), (hf, .inr (1, [.int (iZ fw), .int (iZ fh), .int (iZ fg), .ref hrw])), (hrw, .inl (cI, 8192, .inl (aI X))), (ho, .inl (cL, 1, .inr (.inl (aL O))))] sz)) 3 18 (va_A [(hx_, .inr (4, [.ref hp, .ref hst, .ref hd, .ref hfa])), (hp, .inr (2, [.int (iZ w), .int (iZ h), .int (iZ mn), .ref hw, .ref hs, .ref hk])), (hw, .inl (cL, 16384, .inr (.inl (aL G)))), (hd, .inr (0, [.int (iZ n), .ref hy])), (hy, .inl (cB, 4096, .inl (aI Y))), (hst, .inr (3, [.ref hp, .int (iZ sx), .int (iZ sy), .int (iZ sq), .int (iZ sl), .int (iZ sp), .int (iZ sr), .int (iZ sb)])), (hfa, .inl (cF, 4, .inr (.inr (.inr (.inr (aQ Fq)))))), (hf, .inr (1, [.int (iZ fw), .int (iZ fh), .int (iZ fg), .ref hrw])), (hrw, .inl (cI, 8192, .inl (aI X))), (ho, .inl (cL, 1, .inr (.inl (aL O))))] sz) := by
  refine va_MetW (cc := c_yLa_text) (maxL := 8) (ret := (some .int)) (hh := [((0 : Nat), (16 : Nat), (19 : Nat), (13 : Nat))]) (by decide) rfl ?_
  intro p e s m args below meth c s₁ B hml hv
  obtain ⟨rfl, ⟨hsz, hP, hK, hD0, hXK⟩, hyN⟩ := hv
  have hx := B.exec
  have hb := B.bytes
  have hr := B.returns
  have hts0 := atoms_spec (ws := w_La_text) B.pre
  have hts : ∀ w ∈ gT, w.before _ s = true := fun w h => hts0 w (List.mem_cons_of_mem _ h)
  have hown : s.vm.findClass R_La = some m.cls := findClass_of_methodNamed B.named
  have hlocks := B.notSynchronized
  have htb : c.exceptionTable.toList = tableOf ([((0 : Nat), (16 : Nat), (19 : Nat), (13 : Nat))]) := vx_table (x := y_La_text) B (hts0 _ List.mem_cons_self)
  subst hsz
  have hD := hD0.self (sz := s.heap.size)
  generalize hAe : va_A [(hx_, .inr (4, [.ref hp, .ref hst, .ref hd, .ref hfa])), (hp, .inr (2, [.int (iZ w), .int (iZ h), .int (iZ mn), .ref hw, .ref hs, .ref hk])), (hw, .inl (cL, 16384, .inr (.inl (aL G)))), (hd, .inr (0, [.int (iZ n), .ref hy])), (hy, .inl (cB, 4096, .inl (aI Y))), (hst, .inr (3, [.ref hp, .int (iZ sx), .int (iZ sy), .int (iZ sq), .int (iZ sl), .int (iZ sp), .int (iZ sr), .int (iZ sb)])), (hfa, .inl (cF, 4, .inr (.inr (.inr (.inr (aQ Fq)))))), (hf, .inr (1, [.int (iZ fw), .int (iZ fh), .int (iZ fg), .ref hrw])), (hrw, .inl (cI, 8192, .inl (aI X))), (ho, .inl (cL, 1, .inr (.inl (aL O))))] s.heap.size = A at hD hXK ⊢
  have hA : ∀ q : Nat, s.heap.size ≤ q → A q := fun q h => by rw [← hAe]; exact Or.inr h
  obtain ⟨H, hH⟩ : ∃ H, s.heap = H := ⟨_, rfl⟩
  have hS : va_S A s.heap H [] := by rw [← hH]; exact va_S.rf
  rw [hH] at hP
  rw [hH]
  have hl := lv_entry ([.ref hx_, .int (iZ x), .int (iZ y), .int (iZ f), .int (iZ sc), .int (iZ qr), .ref ho]) (n := 8) (Nat.le_of_ble_eq_true rfl)
  rw [lg_entry_eq]
  generalize (lg_sl ([.ref hx_, .int (iZ x), .int (iZ y), .int (iZ f), .int (iZ sc), .int (iZ qr), .ref ho]) ++ List.replicate (8 - (lg_sl ([.ref hx_, .int (iZ x), .int (iZ y), .int (iZ f), .int (iZ sc), .int (iZ qr), .ref ho])).length) Slot.unset).toArray = ls at hl ⊢
  have hl : lv_has ls 8 [(0, .ref hx_), (1, .int (iZ x)), (2, .int (iZ y)), (3, .int (iZ f)), (4, .int (iZ sc)), (5, .int (iZ qr)), (6, .ref ho)] := hl
  refine lv_aload hx hb d_La_text_0 (lv_at hl 6 rfl) ?_
  refine lv_iconst (v := iZ (0)) hx hb d_La_text_2 rfl ?_
  refine lv_aload_n hx hb d_La_text_3 rfl (lv_at hl 0 rfl) ?_
  refine lv_iload_n hx hb d_La_text_4 rfl (lv_at hl 1 rfl) ?_
  refine lv_iload_n hx hb d_La_text_5 rfl (lv_at hl 2 rfl) ?_
  refine lv_iload_n hx hb d_La_text_6 rfl (lv_at hl 3 rfl) ?_
  refine lv_iload hx hb d_La_text_7 (lv_at hl 4 rfl) ?_
  refine lv_iload hx hb d_La_text_9 (lv_at hl 5 rfl) ?_
  refine zx_i (w1 := fun (u_11 : (Int → Int64) × Int × Int × Int × Int) => [(hx_, .inr (4, [.ref hp, .ref hst, .ref hd, .ref hfa])), (hp, .inr (2, [.int (iZ w), .int (iZ h), .int (iZ mn), .ref hw, .ref hs, .ref hk])), (hw, .inl (cL, 16384, .inr (.inl (aL u_11.1)))), (hd, .inr (0, [.int (iZ n), .ref hy])), (hy, .inl (cB, 4096, .inl (aI Y))), (hst, .inr (3, [.ref hp, .int (iZ x), .int (iZ y), .int (iZ qr), .int (iZ u_11.2.1), .int (iZ u_11.2.2.1), .int (iZ u_11.2.2.2.1), .int (iZ u_11.2.2.2.2)])), (hfa, .inl (cF, 4, .inr (.inr (.inr (.inr (aQ Fq)))))), (hf, .inr (1, [.int (iZ fw), .int (iZ fh), .int (iZ fg), .ref hrw])), (hrw, .inl (cI, 8192, .inl (aI X)))]) (wr := [(ho, .inl (cL, 1, .inr (.inl (aL O))))]) (vx_runV (As := [.int (iZ x), .int (iZ y), .int (iZ f), .int (iZ sc), .int (iZ qr)]) (rest := [.int (iZ 0), .ref ho]) ⟨hx, hb, hml, hown, hts⟩ (c_DotSheet_text l hnt dC dI sa hx_ hst hd hfa hp hw hs hk cL w h mn G pic hy cB n Y dr sx sy sq sl sp sr sb cF Fq _ hrw cI fw fh fg X x y f sc qr H.size (by first | omega | assumption) (by first | omega | assumption) (by first | omega | assumption) (by first | omega | assumption) (by first | omega | assumption) (by first | omega | assumption) (by first | omega | assumption) (by first | omega | assumption) (by first | omega | assumption) (by first | omega | assumption) (by first | omega | assumption) (by first | omega | assumption) (by first | omega | assumption) (by first | omega | assumption) (by first | omega | assumption) (by first | omega | assumption) (by first | omega | assumption) (by first | omega | assumption) (by first | omega | assumption) (by first | omega | assumption) (by first | omega | assumption) (by first | omega | assumption) (by first | omega | assumption) (by first | omega | assumption) (by first | omega | assumption) (by first | omega | assumption) (by first | omega | assumption)) (cwV 5 hts (gV t_463 t_464 t_465 t_1 t_466) rfl rfl rfl (by decide +kernel) ⟨Nat.le_of_ble_eq_true rfl, Nat.le_of_ble_eq_true rfl⟩) ⟨zPx_blind, va_recv hK hP (ci := 4) (q0 := 0) rfl rfl, zPx_pre hP hD hK hXK hS hA [0, 1, 2, 3, 4, 5, 6, 7, 8] [0, 1, 2, 3] rfl rfl rfl rfl⟩ rfl rfl hl.1 rfl (lv_room (Nat.le_of_ble_eq_true rfl)) d_La_text_11 ⟨Nat.le_of_ble_eq_true rfl, Nat.le_of_ble_eq_true rfl⟩) hP hD hS hA [0, 1, 2, 3, 4, 5, 6, 7, 8] [9] rfl rfl rfl (by decide) (fun E_ ce_ q9_ H locs x_11 hP hD hS hce hcv hcl => ?_) (fun r_11 u_11 H locs q_11 hP hD hS => ?_)
  · have hP : va_P (dC, dI) vwCl [(ho, .inl (cL, 1, .inr (.inl (aL O)))), (hx_, .inr (4, [.ref hp, .ref hst, .ref hd, .ref hfa])), (hp, .inr (2, [.int (iZ w), .int (iZ h), .int (iZ mn), .ref hw, .ref hs, .ref hk])), (hw, .inl (cL, 16384, .inr (.inl (aL G)))), (hd, .inr (0, [.int (iZ n), .ref hy])), (hy, .inl (cB, 4096, .inl (aI Y))), (hst, .inr (3, [.ref hp, .int (iZ sx), .int (iZ sy), .int (iZ sq), .int (iZ sl), .int (iZ sp), .int (iZ sr), .int (iZ sb)])), (hfa, .inl (cF, 4, .inr (.inr (.inr (.inr (aQ Fq)))))), (hf, .inr (1, [.int (iZ fw), .int (iZ fh), .int (iZ fg), .ref hrw])), (hrw, .inl (cI, 8192, .inl (aI X)))] H := hP
    have hD : va_D A [(ho, .inl (cL, 1, .inr (.inl (aL O)))), (hx_, .inr (4, [.ref hp, .ref hst, .ref hd, .ref hfa])), (hp, .inr (2, [.int (iZ w), .int (iZ h), .int (iZ mn), .ref hw, .ref hs, .ref hk])), (hw, .inl (cL, 16384, .inr (.inl (aL G)))), (hd, .inr (0, [.int (iZ n), .ref hy])), (hy, .inl (cB, 4096, .inl (aI Y))), (hst, .inr (3, [.ref hp, .int (iZ sx), .int (iZ sy), .int (iZ sq), .int (iZ sl), .int (iZ sp), .int (iZ sr), .int (iZ sb)])), (hfa, .inl (cF, 4, .inr (.inr (.inr (.inr (aQ Fq)))))), (hf, .inr (1, [.int (iZ fw), .int (iZ fh), .int (iZ fg), .ref hrw])), (hrw, .inl (cI, 8192, .inl (aI X)))] := hD
    obtain ⟨rfl, x_11⟩ := x_11
    refine vx_catch (own := R_La) (name := "java/lang/IllegalArgumentException") hown [] ⟨0, 16, 19, 13⟩ [] htb (fun z hz => nomatch hz) (by decide) (by decide) (hts _ t_146) (va_Nw.use rfl (hXK.1 _ xc_A)) hce hcv hcl ?_
    refine lv_astore (lv' := [(7, .ref q9_), (0, .ref hx_), (1, .int (iZ x)), (2, .int (iZ y)), (3, .int (iZ f)), (4, .int (iZ sc)), (5, .int (iZ qr)), (6, .ref ho)]) hx hb d_La_text_19 hl (by decide) rfl (fun ls hl => ?_)
    refine lv_iconst (v := iZ (1)) hx hb d_La_text_21 rfl ?_
    have hP := hP.sub (ws' := [(hx_, .inr (4, [.ref hp, .ref hst, .ref hd, .ref hfa])), (hp, .inr (2, [.int (iZ w), .int (iZ h), .int (iZ mn), .ref hw, .ref hs, .ref hk])), (hw, .inl (cL, 16384, .inr (.inl (aL G)))), (hd, .inr (0, [.int (iZ n), .ref hy])), (hy, .inl (cB, 4096, .inl (aI Y))), (hst, .inr (3, [.ref hp, .int (iZ sx), .int (iZ sy), .int (iZ sq), .int (iZ sl), .int (iZ sp), .int (iZ sr), .int (iZ sb)])), (hfa, .inl (cF, 4, .inr (.inr (.inr (.inr (aQ Fq)))))), (hf, .inr (1, [.int (iZ fw), .int (iZ fh), .int (iZ fg), .ref hrw])), (hrw, .inl (cI, 8192, .inl (aI X))), (ho, .inl (cL, 1, .inr (.inl (aL O))))]) [1, 2, 3, 4, 5, 6, 7, 8, 9, 0] rfl
    have hD := hD.sub (ws' := [(hx_, .inr (4, [.ref hp, .ref hst, .ref hd, .ref hfa])), (hp, .inr (2, [.int (iZ w), .int (iZ h), .int (iZ mn), .ref hw, .ref hs, .ref hk])), (hw, .inl (cL, 16384, .inr (.inl (aL G)))), (hd, .inr (0, [.int (iZ n), .ref hy])), (hy, .inl (cB, 4096, .inl (aI Y))), (hst, .inr (3, [.ref hp, .int (iZ sx), .int (iZ sy), .int (iZ sq), .int (iZ sl), .int (iZ sp), .int (iZ sr), .int (iZ sb)])), (hfa, .inl (cF, 4, .inr (.inr (.inr (.inr (aQ Fq)))))), (hf, .inr (1, [.int (iZ fw), .int (iZ fh), .int (iZ fg), .ref hrw])), (hrw, .inl (cI, 8192, .inl (aI X))), (ho, .inl (cL, 1, .inr (.inl (aL O))))]) [1, 2, 3, 4, 5, 6, 7, 8, 9, 0] (by decide) rfl
    exact W.iret hx hb hr (fun t9_ ht hW => ⟨⟨_, ((G, sx, sy, sq, sl, sp, sr, sb, O)), rfl, ⟨1, rfl, Or.inr ⟨⟨rfl, x_11⟩, rfl, rfl, rfl, rfl, rfl, rfl, rfl, rfl⟩⟩, by rw [ht]; exact hP, va_K.moved hW.alike hK, hD⟩, hS.F ht⟩) hS.2.2 d_La_text_22
  have hP : va_P (dC, dI) vwCl [(ho, .inl (cL, 1, .inr (.inl (aL O)))), (hx_, .inr (4, [.ref hp, .ref hst, .ref hd, .ref hfa])), (hp, .inr (2, [.int (iZ w), .int (iZ h), .int (iZ mn), .ref hw, .ref hs, .ref hk])), (hw, .inl (cL, 16384, .inr (.inl (aL u_11.1)))), (hd, .inr (0, [.int (iZ n), .ref hy])), (hy, .inl (cB, 4096, .inl (aI Y))), (hst, .inr (3, [.ref hp, .int (iZ x), .int (iZ y), .int (iZ qr), .int (iZ u_11.2.1), .int (iZ u_11.2.2.1), .int (iZ u_11.2.2.2.1), .int (iZ u_11.2.2.2.2)])), (hfa, .inl (cF, 4, .inr (.inr (.inr (.inr (aQ Fq)))))), (hf, .inr (1, [.int (iZ fw), .int (iZ fh), .int (iZ fg), .ref hrw])), (hrw, .inl (cI, 8192, .inl (aI X)))] H := hP
  have hD : va_D A [(ho, .inl (cL, 1, .inr (.inl (aL O)))), (hx_, .inr (4, [.ref hp, .ref hst, .ref hd, .ref hfa])), (hp, .inr (2, [.int (iZ w), .int (iZ h), .int (iZ mn), .ref hw, .ref hs, .ref hk])), (hw, .inl (cL, 16384, .inr (.inl (aL u_11.1)))), (hd, .inr (0, [.int (iZ n), .ref hy])), (hy, .inl (cB, 4096, .inl (aI Y))), (hst, .inr (3, [.ref hp, .int (iZ x), .int (iZ y), .int (iZ qr), .int (iZ u_11.2.1), .int (iZ u_11.2.2.1), .int (iZ u_11.2.2.2.1), .int (iZ u_11.2.2.2.2)])), (hfa, .inl (cF, 4, .inr (.inr (.inr (.inr (aQ Fq)))))), (hf, .inr (1, [.int (iZ fw), .int (iZ fh), .int (iZ fg), .ref hrw])), (hrw, .inl (cI, 8192, .inl (aI X)))] := hD
  obtain ⟨rfl, q_11⟩ := q_11
  refine lv_i2l hx hb d_La_text_14 rfl ?_
  refine z_last hx hb hK hP hD hS 0 0 rfl rfl (by omega) (by omega) (by omega) d_La_text_15 (fun H locs hP hD hS => ?_)
  have hP : va_P (dC, dI) vwCl [(ho, .inl (cL, 1, .inr (.inl (aL (upZ O 0 ((iZ (cnt w h (txB X dr n fw fh fg (sc / 16) (sc % 16) qr x y))).toInt64)))))), (hx_, .inr (4, [.ref hp, .ref hst, .ref hd, .ref hfa])), (hp, .inr (2, [.int (iZ w), .int (iZ h), .int (iZ mn), .ref hw, .ref hs, .ref hk])), (hw, .inl (cL, 16384, .inr (.inl (aL u_11.1)))), (hd, .inr (0, [.int (iZ n), .ref hy])), (hy, .inl (cB, 4096, .inl (aI Y))), (hst, .inr (3, [.ref hp, .int (iZ x), .int (iZ y), .int (iZ qr), .int (iZ u_11.2.1), .int (iZ u_11.2.2.1), .int (iZ u_11.2.2.2.1), .int (iZ u_11.2.2.2.2)])), (hfa, .inl (cF, 4, .inr (.inr (.inr (.inr (aQ Fq)))))), (hf, .inr (1, [.int (iZ fw), .int (iZ fh), .int (iZ fg), .ref hrw])), (hrw, .inl (cI, 8192, .inl (aI X)))] H := hP
  have hD : va_D A [(ho, .inl (cL, 1, .inr (.inl (aL (upZ O 0 ((iZ (cnt w h (txB X dr n fw fh fg (sc / 16) (sc % 16) qr x y))).toInt64)))))), (hx_, .inr (4, [.ref hp, .ref hst, .ref hd, .ref hfa])), (hp, .inr (2, [.int (iZ w), .int (iZ h), .int (iZ mn), .ref hw, .ref hs, .ref hk])), (hw, .inl (cL, 16384, .inr (.inl (aL u_11.1)))), (hd, .inr (0, [.int (iZ n), .ref hy])), (hy, .inl (cB, 4096, .inl (aI Y))), (hst, .inr (3, [.ref hp, .int (iZ x), .int (iZ y), .int (iZ qr), .int (iZ u_11.2.1), .int (iZ u_11.2.2.1), .int (iZ u_11.2.2.2.1), .int (iZ u_11.2.2.2.2)])), (hfa, .inl (cF, 4, .inr (.inr (.inr (.inr (aQ Fq)))))), (hf, .inr (1, [.int (iZ fw), .int (iZ fh), .int (iZ fg), .ref hrw])), (hrw, .inl (cI, 8192, .inl (aI X)))] := hD
  refine lv_goto (tgt := 23) hx hb d_La_text_16 (by decide) ?_
  refine lv_iconst (v := iZ (0)) hx hb d_La_text_23 rfl ?_
  have hP := hP.sub (ws' := [(hx_, .inr (4, [.ref hp, .ref hst, .ref hd, .ref hfa])), (hp, .inr (2, [.int (iZ w), .int (iZ h), .int (iZ mn), .ref hw, .ref hs, .ref hk])), (hw, .inl (cL, 16384, .inr (.inl (aL u_11.1)))), (hd, .inr (0, [.int (iZ n), .ref hy])), (hy, .inl (cB, 4096, .inl (aI Y))), (hst, .inr (3, [.ref hp, .int (iZ x), .int (iZ y), .int (iZ qr), .int (iZ u_11.2.1), .int (iZ u_11.2.2.1), .int (iZ u_11.2.2.2.1), .int (iZ u_11.2.2.2.2)])), (hfa, .inl (cF, 4, .inr (.inr (.inr (.inr (aQ Fq)))))), (hf, .inr (1, [.int (iZ fw), .int (iZ fh), .int (iZ fg), .ref hrw])), (hrw, .inl (cI, 8192, .inl (aI X))), (ho, .inl (cL, 1, .inr (.inl (aL (upZ O 0 ((iZ (cnt w h (txB X dr n fw fh fg (sc / 16) (sc % 16) qr x y))).toInt64))))))]) [1, 2, 3, 4, 5, 6, 7, 8, 9, 0] rfl
  have hD := hD.sub (ws' := [(hx_, .inr (4, [.ref hp, .ref hst, .ref hd, .ref hfa])), (hp, .inr (2, [.int (iZ w), .int (iZ h), .int (iZ mn), .ref hw, .ref hs, .ref hk])), (hw, .inl (cL, 16384, .inr (.inl (aL u_11.1)))), (hd, .inr (0, [.int (iZ n), .ref hy])), (hy, .inl (cB, 4096, .inl (aI Y))), (hst, .inr (3, [.ref hp, .int (iZ x), .int (iZ y), .int (iZ qr), .int (iZ u_11.2.1), .int (iZ u_11.2.2.1), .int (iZ u_11.2.2.2.1), .int (iZ u_11.2.2.2.2)])), (hfa, .inl (cF, 4, .inr (.inr (.inr (.inr (aQ Fq)))))), (hf, .inr (1, [.int (iZ fw), .int (iZ fh), .int (iZ fg), .ref hrw])), (hrw, .inl (cI, 8192, .inl (aI X))), (ho, .inl (cL, 1, .inr (.inl (aL (upZ O 0 ((iZ (cnt w h (txB X dr n fw fh fg (sc / 16) (sc % 16) qr x y))).toInt64))))))]) [1, 2, 3, 4, 5, 6, 7, 8, 9, 0] (by decide) rfl
  exact W.iret hx hb hr (fun t9_ ht hW => ⟨⟨_, ((u_11.1, x, y, qr, u_11.2.1, u_11.2.2.1, u_11.2.2.2.1, u_11.2.2.2.2, upZ O 0 ((iZ (cnt w h (txB X dr n fw fh fg (sc / 16) (sc % 16) qr x y))).toInt64))), rfl, ⟨0, rfl, Or.inl ⟨rfl, _, u_11, ⟨rfl, q_11⟩, rfl, rfl, rfl, rfl, rfl, rfl, rfl, rfl, upZ_s O 0 ((iZ (cnt w h (txB X dr n fw fh fg (sc / 16) (sc % 16) qr x y))).toInt64)⟩⟩, by rw [ht]; exact hP, va_K.moved hW.alike hK, hD⟩, hS.F ht⟩) hS.2.2 d_La_text_24
theorem d_La_bars_0 : decode c_yLa_bars 0 = .ok (.aload 6, 2) := by decide +kernel
theorem d_La_bars_2 : decode c_yLa_bars 2 = .ok (.iconst 0, 1) := by decide +kernel
theorem d_La_bars_3 : decode c_yLa_bars 3 = .ok (.aload_n 0, 1) := by decide +kernel
theorem d_La_bars_4 : decode c_yLa_bars 4 = .ok (.iload_n 1, 1) := by decide +kernel
theorem d_La_bars_5 : decode c_yLa_bars 5 = .ok (.iload_n 2, 1) := by decide +kernel
theorem d_La_bars_6 : decode c_yLa_bars 6 = .ok (.iload_n 3, 1) := by decide +kernel
theorem d_La_bars_7 : decode c_yLa_bars 7 = .ok (.iload 4, 2) := by decide +kernel
theorem d_La_bars_9 : decode c_yLa_bars 9 = .ok (.iload 5, 2) := by decide +kernel
theorem d_La_bars_11 : decode c_yLa_bars 11 = .ok (.invokevirtual 45, 3) := by decide +kernel
theorem d_La_bars_14 : decode c_yLa_bars 14 = .ok (.i2l, 1) := by decide +kernel
theorem d_La_bars_15 : decode c_yLa_bars 15 = .ok (.lastore, 1) := by decide +kernel
theorem d_La_bars_16 : decode c_yLa_bars 16 = .ok (.goto 7, 3) := by decide +kernel
theorem d_La_bars_19 : decode c_yLa_bars 19 = .ok (.astore 7, 2) := by decide +kernel
theorem d_La_bars_21 : decode c_yLa_bars 21 = .ok (.iconst 1, 1) := by decide +kernel
theorem d_La_bars_22 : decode c_yLa_bars 22 = .ok (.ireturn, 1) := by decide +kernel
theorem d_La_bars_23 : decode c_yLa_bars 23 = .ok (.iconst 0, 1) := by decide +kernel
theorem d_La_bars_24 : decode c_yLa_bars 24 = .ok (.ireturn, 1) := by decide +kernel
set_option maxHeartbeats 4000000 in
set_option maxRecDepth 100000 in
theorem c_Law_bars (l : Launch) (hnt : l.stackTraces = false) (dC : Nat → ClassId) (dI : Nat → Nat → Nat) (sa : Nat → Nat) (hx_ hst hd hfa hp hw hs hk : Nat) (cL : ClassId) (w h mn : Int) (G : Int → Int64) (pic : Int → Int → Bool) (hy : Nat) (cB : ClassId) (n : Int) (Y : Int → Int32) (dr dr0 : Int → Int) (sx sy sq sl sp sr sb x y bh m_ qr : Int) (ho : Nat) (O : Int → Int64) (sz : Nat) (w1 : 1 ≤ w) (w2 : w ≤ 1024) (h1 : 1 ≤ h) (h2 : h ≤ 1024) (mn1 : 0 ≤ mn) (mn2 : mn ≤ 2) (hR : Rep G pic) (n1 : 0 ≤ n) (n2 : n ≤ 4096) (hY : RepD Y n dr) (hd0 : ∀ k, 0 ≤ dr0 k ∧ dr0 k ≤ 255) (hd1 : ∀ k, 0 ≤ k → k < n → dr0 k = dr k) (x1 : -2147483648 ≤ x) (y1 : -2147483648 ≤ y) (bh1 : -2147483648 ≤ bh) (m_1 : -2147483648 ≤ m_) (qr1 : -2147483648 ≤ qr) (x2 : x ≤ 2147483647) (y2 : y ≤ 2147483647) (bh2 : bh ≤ 2147483647) (m_2 : m_ ≤ 2147483647) (qr2 : qr ≤ 2147483647) : Met l y_La_bars w_La_bars ({ frames := 9, cells := 2, slots := 12, locals := 171 }) (va_Pc [.ref hx_, .int (iZ x), .int (iZ y), .int (iZ bh), .int (iZ m_), .int (iZ qr), .ref ho] (zPy (dC, dI) vwCl [(hx_, .inr (4, [.ref hp, .ref hst, .ref hd, .ref hfa])), (hp, .inr (2, [.int (iZ w), .int (iZ h), .int (iZ mn), .ref hw, .ref hs, .ref hk])), (hw, .inl (cL, 16384, .inr (.inl (aL G)))), (hd, .inr (0, [.int (iZ n), .ref hy])), (hy, .inl (cB, 4096, .inl (aI Y))), (hst, .inr (3, [.ref hp, .int (iZ sx), .int (iZ sy), .int (iZ sq), .int (iZ sl), .int (iZ sp), .int (iZ sr), .int (iZ sb)])), (ho, .inl (cL, 1, .inr (.inl (aL O))))] [(cL, .long), (cB, .byte)] sz sa)) (va_Qi (fun (r : Int32) (u : (Int → Int64) × Int × Int × Int × Int × Int × Int × Int × (Int → Int64)) => ∃ k : Int, r = iZ k ∧ ((k = 0 ∧ ∃ (r9 : Int32) (u9 : (Int → Int64) × Int × Int × Int × Int), (r9 = iZ (cnt w h (baB dr0 qr x y bh m_ n.toNat)) ∧ (-4096 ≤ x ∧ x ≤ 4096 ∧ -4096 ≤ y ∧ y ≤ 4096 ∧ 0 ≤ qr ∧ qr ≤ 3 ∧ 1 ≤ bh ∧ bh ≤ 2048 ∧ 1 ≤ m_ ∧ m_ ≤ 50) ∧ Rep u9.1 (drw mn (fun px py => onB w h px py && baB dr0 qr x y bh m_ n.toNat px py) pic)) ∧ u.1 = u9.1 ∧ u.2.1 = x ∧ u.2.2.1 = y ∧ u.2.2.2.1 = qr ∧ u.2.2.2.2.1 = u9.2.1 ∧ u.2.2.2.2.2.1 = u9.2.2.1 ∧ u.2.2.2.2.2.2.1 = u9.2.2.2.1 ∧ u.2.2.2.2.2.2.2.1 = u9.2.2.2.2 ∧ u.2.2.2.2.2.2.2.2 0 = r9.toInt64) ∨ ((k = 1 ∧ ¬ (-4096 ≤ x ∧ x ≤ 4096 ∧ -4096 ≤ y ∧ y ≤ 4096 ∧ 0 ≤ qr ∧ qr ≤ 3 ∧ 1 ≤ bh ∧ bh ≤ 2048 ∧ 1 ≤ m_ ∧ m_ ≤ 50)) ∧ u.1 = G ∧ u.2.1 = sx ∧ u.2.2.1 = sy ∧ u.2.2.2.1 = sq ∧ u.2.2.2.2.1 = sl ∧ u.2.2.2.2.2.1 = sp ∧ u.2.2.2.2.2.2.1 = sr ∧ u.2.2.2.2.2.2.2.1 = sb))) (fun u => zB (dC, dI) vwCl [(cL, .long), (cB, .byte)] (va_A [(hx_, .inr (4, [.ref hp, .ref hst, .ref hd, .ref hfa])), (hp, .inr (2, [.int (iZ w), .int (iZ h), .int (iZ mn), .ref hw, .ref hs, .ref hk])), (hw, .inl (cL, 16384, .inr (.inl (aL G)))), (hd, .inr (0, [.int (iZ n), .ref hy])), (hy, .inl (cB, 4096, .inl (aI Y))), (hst, .inr (3, [.ref hp, .int (iZ sx), .int (iZ sy), .int (iZ sq), .int (iZ sl), .int (iZ sp), .int (iZ sr), .int (iZ sb)])), (ho, .inl (cL, 1, .inr (.inl (aL O))))] sz) [(hx_, .inr (4, [.ref hp, .ref hst, .ref hd, .ref hfa])), (hp, .inr (2, [.int (iZ w), .int (iZ h), .int (iZ mn), .ref hw, .ref hs, .ref hk])), (hw, .inl (cL, 16384, .inr (.inl (aL u.1)))), (hd, .inr (0, [.int (iZ n), .ref hy])), (hy, .inl (cB, 4096, .inl (aI Y))), (hst, .inr (3, [.ref hp, .int (iZ u.2.1), .int (iZ u.2.2.1), .int (iZ u.2.2.2.1), .int (iZ u.2.2.2.2.1), .int (iZ u.2.2.2.2.2.1), .int (iZ u.2.2.2.2.2.2.1), .int (iZ u.2.2.2.2.2.2.2.1)])), (ho, .inl (cL, 1, .inr (.inl (aL u.2.2.2.2.2.2.2.2))))]) (va_A [(hx_, .inr (4, [.ref hp, .ref hst, .ref hd, .ref hfa])), (hp, .inr (2, [.int (iZ w), .int (iZ h), .int (iZ mn), .ref hw, .ref hs, .ref hk])), (hw, .inl (cL, 16384, .inr (.inl (aL G)))), (hd, .inr (0, [.int (iZ n), .ref hy])), (hy, .inl (cB, 4096, .inl (aI Y))), (hst, .inr (3, [.ref hp, .int (iZ sx), .int (iZ sy), .int (iZ sq), .int (iZ sl), .int (iZ sp), .int (iZ sr), .int (iZ sb)])), (ho, .inl (cL, 1, .inr (.inl (aL O))))] sz)) 2 12 (va_A [(hx_, .inr (4, [.ref hp, .ref hst, .ref hd, .ref hfa])), (hp, .inr (2, [.int (iZ w), .int (iZ h), .int (iZ mn), .ref hw, .ref hs, .ref hk])), (hw, .inl (cL, 16384, .inr (.inl (aL G)))), (hd, .inr (0, [.int (iZ n), .ref hy])), (hy, .inl (cB, 4096, .inl (aI Y))), (hst, .inr (3, [.ref hp, .int (iZ sx), .int (iZ sy), .int (iZ sq), .int (iZ sl), .int (iZ sp), .int (iZ sr), .int (iZ sb)])), (ho, .inl (cL, 1, .inr (.inl (aL O))))] sz) := by
  refine va_MetW (cc := c_yLa_bars) (maxL := 8) (ret := (some .int)) (hh := [((0 : Nat), (16 : Nat), (19 : Nat), (13 : Nat))]) (by decide) rfl ?_
  intro p e s m args below meth c s₁ B hml hv
  obtain ⟨rfl, ⟨hsz, hP, hK, hD0, hXK⟩, hyN⟩ := hv
  have hx := B.exec
  have hb := B.bytes
  have hr := B.returns
  have hts0 := atoms_spec (ws := w_La_bars) B.pre
  have hts : ∀ w ∈ gT, w.before _ s = true := fun w h => hts0 w (List.mem_cons_of_mem _ h)
  have hown : s.vm.findClass R_La = some m.cls := findClass_of_methodNamed B.named
  have hlocks := B.notSynchronized
  have htb : c.exceptionTable.toList = tableOf ([((0 : Nat), (16 : Nat), (19 : Nat), (13 : Nat))]) := vx_table (x := y_La_bars) B (hts0 _ List.mem_cons_self)
  subst hsz
  have hD := hD0.self (sz := s.heap.size)
  generalize hAe : va_A [(hx_, .inr (4, [.ref hp, .ref hst, .ref hd, .ref hfa])), (hp, .inr (2, [.int (iZ w), .int (iZ h), .int (iZ mn), .ref hw, .ref hs, .ref hk])), (hw, .inl (cL, 16384, .inr (.inl (aL G)))), (hd, .inr (0, [.int (iZ n), .ref hy])), (hy, .inl (cB, 4096, .inl (aI Y))), (hst, .inr (3, [.ref hp, .int (iZ sx), .int (iZ sy), .int (iZ sq), .int (iZ sl), .int (iZ sp), .int (iZ sr), .int (iZ sb)])), (ho, .inl (cL, 1, .inr (.inl (aL O))))] s.heap.size = A at hD hXK ⊢
  have hA : ∀ q : Nat, s.heap.size ≤ q → A q := fun q h => by rw [← hAe]; exact Or.inr h
  obtain ⟨H, hH⟩ : ∃ H, s.heap = H := ⟨_, rfl⟩
  have hS : va_S A s.heap H [] := by rw [← hH]; exact va_S.rf
  rw [hH] at hP
  rw [hH]
  have hl := lv_entry ([.ref hx_, .int (iZ x), .int (iZ y), .int (iZ bh), .int (iZ m_), .int (iZ qr), .ref ho]) (n := 8) (Nat.le_of_ble_eq_true rfl)
  rw [lg_entry_eq]
  generalize (lg_sl ([.ref hx_, .int (iZ x), .int (iZ y), .int (iZ bh), .int (iZ m_), .int (iZ qr), .ref ho]) ++ List.replicate (8 - (lg_sl ([.ref hx_, .int (iZ x), .int (iZ y), .int (iZ bh), .int (iZ m_), .int (iZ qr), .ref ho])).length) Slot.unset).toArray = ls at hl ⊢
  have hl : lv_has ls 8 [(0, .ref hx_), (1, .int (iZ x)), (2, .int (iZ y)), (3, .int (iZ bh)), (4, .int (iZ m_)), (5, .int (iZ qr)), (6, .ref ho)] := hl
  refine lv_aload hx hb d_La_bars_0 (lv_at hl 6 rfl) ?_
  refine lv_iconst (v := iZ (0)) hx hb d_La_bars_2 rfl ?_
  refine lv_aload_n hx hb d_La_bars_3 rfl (lv_at hl 0 rfl) ?_
  refine lv_iload_n hx hb d_La_bars_4 rfl (lv_at hl 1 rfl) ?_
  refine lv_iload_n hx hb d_La_bars_5 rfl (lv_at hl 2 rfl) ?_
  refine lv_iload_n hx hb d_La_bars_6 rfl (lv_at hl 3 rfl) ?_
  refine lv_iload hx hb d_La_bars_7 (lv_at hl 4 rfl) ?_
  refine lv_iload hx hb d_La_bars_9 (lv_at hl 5 rfl) ?_
  refine zx_i (w1 := fun (u_11 : (Int → Int64) × Int × Int × Int × Int) => [(hx_, .inr (4, [.ref hp, .ref hst, .ref hd, .ref hfa])), (hp, .inr (2, [.int (iZ w), .int (iZ h), .int (iZ mn), .ref hw, .ref hs, .ref hk])), (hw, .inl (cL, 16384, .inr (.inl (aL u_11.1)))), (hd, .inr (0, [.int (iZ n), .ref hy])), (hy, .inl (cB, 4096, .inl (aI Y))), (hst, .inr (3, [.ref hp, .int (iZ x), .int (iZ y), .int (iZ qr), .int (iZ u_11.2.1), .int (iZ u_11.2.2.1), .int (iZ u_11.2.2.2.1), .int (iZ u_11.2.2.2.2)]))]) (wr := [(ho, .inl (cL, 1, .inr (.inl (aL O))))]) (vx_runV (As := [.int (iZ x), .int (iZ y), .int (iZ bh), .int (iZ m_), .int (iZ qr)]) (rest := [.int (iZ 0), .ref ho]) ⟨hx, hb, hml, hown, hts⟩ (c_DotSheet_bars l hnt dC dI sa hx_ hst hd hfa hp hw hs hk cL w h mn G pic hy cB n Y dr dr0 sx sy sq sl sp sr sb x y bh m_ qr H.size (by first | omega | assumption) (by first | omega | assumption) (by first | omega | assumption) (by first | omega | assumption) (by first | omega | assumption) (by first | omega | assumption) (by first | omega | assumption) (by first | omega | assumption) (by first | omega | assumption) (by first | omega | assumption) (by first | omega | assumption) (by first | omega | assumption) (by first | omega | assumption) (by first | omega | assumption) (by first | omega | assumption) (by first | omega | assumption) (by first | omega | assumption) (by first | omega | assumption) (by first | omega | assumption) (by first | omega | assumption) (by first | omega | assumption) (by first | omega | assumption)) (cwV 5 hts (gV t_513 t_514 t_515 t_1 t_516) rfl rfl rfl (by decide +kernel) ⟨Nat.le_of_ble_eq_true rfl, Nat.le_of_ble_eq_true rfl⟩) ⟨zPx_blind, va_recv hK hP (ci := 4) (q0 := 0) rfl rfl, zPx_pre hP hD hK hXK hS hA [0, 1, 2, 3, 4, 5] [0, 1] rfl rfl rfl rfl⟩ rfl rfl hl.1 rfl (lv_room (Nat.le_of_ble_eq_true rfl)) d_La_bars_11 ⟨Nat.le_of_ble_eq_true rfl, Nat.le_of_ble_eq_true rfl⟩) hP hD hS hA [0, 1, 2, 3, 4, 5] [6] rfl rfl rfl (by decide) (fun E_ ce_ q9_ H locs x_11 hP hD hS hce hcv hcl => ?_) (fun r_11 u_11 H locs q_11 hP hD hS => ?_)
  · have hP : va_P (dC, dI) vwCl [(ho, .inl (cL, 1, .inr (.inl (aL O)))), (hx_, .inr (4, [.ref hp, .ref hst, .ref hd, .ref hfa])), (hp, .inr (2, [.int (iZ w), .int (iZ h), .int (iZ mn), .ref hw, .ref hs, .ref hk])), (hw, .inl (cL, 16384, .inr (.inl (aL G)))), (hd, .inr (0, [.int (iZ n), .ref hy])), (hy, .inl (cB, 4096, .inl (aI Y))), (hst, .inr (3, [.ref hp, .int (iZ sx), .int (iZ sy), .int (iZ sq), .int (iZ sl), .int (iZ sp), .int (iZ sr), .int (iZ sb)]))] H := hP
    have hD : va_D A [(ho, .inl (cL, 1, .inr (.inl (aL O)))), (hx_, .inr (4, [.ref hp, .ref hst, .ref hd, .ref hfa])), (hp, .inr (2, [.int (iZ w), .int (iZ h), .int (iZ mn), .ref hw, .ref hs, .ref hk])), (hw, .inl (cL, 16384, .inr (.inl (aL G)))), (hd, .inr (0, [.int (iZ n), .ref hy])), (hy, .inl (cB, 4096, .inl (aI Y))), (hst, .inr (3, [.ref hp, .int (iZ sx), .int (iZ sy), .int (iZ sq), .int (iZ sl), .int (iZ sp), .int (iZ sr), .int (iZ sb)]))] := hD
    obtain ⟨rfl, x_11⟩ := x_11
    refine vx_catch (own := R_La) (name := "java/lang/IllegalArgumentException") hown [] ⟨0, 16, 19, 13⟩ [] htb (fun z hz => nomatch hz) (by decide) (by decide) (hts _ t_146) (va_Nw.use rfl (hXK.1 _ xc_A)) hce hcv hcl ?_
    refine lv_astore (lv' := [(7, .ref q9_), (0, .ref hx_), (1, .int (iZ x)), (2, .int (iZ y)), (3, .int (iZ bh)), (4, .int (iZ m_)), (5, .int (iZ qr)), (6, .ref ho)]) hx hb d_La_bars_19 hl (by decide) rfl (fun ls hl => ?_)
    refine lv_iconst (v := iZ (1)) hx hb d_La_bars_21 rfl ?_
    have hP := hP.sub (ws' := [(hx_, .inr (4, [.ref hp, .ref hst, .ref hd, .ref hfa])), (hp, .inr (2, [.int (iZ w), .int (iZ h), .int (iZ mn), .ref hw, .ref hs, .ref hk])), (hw, .inl (cL, 16384, .inr (.inl (aL G)))), (hd, .inr (0, [.int (iZ n), .ref hy])), (hy, .inl (cB, 4096, .inl (aI Y))), (hst, .inr (3, [.ref hp, .int (iZ sx), .int (iZ sy), .int (iZ sq), .int (iZ sl), .int (iZ sp), .int (iZ sr), .int (iZ sb)])), (ho, .inl (cL, 1, .inr (.inl (aL O))))]) [1, 2, 3, 4, 5, 6, 0] rfl
    have hD := hD.sub (ws' := [(hx_, .inr (4, [.ref hp, .ref hst, .ref hd, .ref hfa])), (hp, .inr (2, [.int (iZ w), .int (iZ h), .int (iZ mn), .ref hw, .ref hs, .ref hk])), (hw, .inl (cL, 16384, .inr (.inl (aL G)))), (hd, .inr (0, [.int (iZ n), .ref hy])), (hy, .inl (cB, 4096, .inl (aI Y))), (hst, .inr (3, [.ref hp, .int (iZ sx), .int (iZ sy), .int (iZ sq), .int (iZ sl), .int (iZ sp), .int (iZ sr), .int (iZ sb)])), (ho, .inl (cL, 1, .inr (.inl (aL O))))]) [1, 2, 3, 4, 5, 6, 0] (by decide) rfl
    exact W.iret hx hb hr (fun t9_ ht hW => ⟨⟨_, ((G, sx, sy, sq, sl, sp, sr, sb, O)), rfl, ⟨1, rfl, Or.inr ⟨⟨rfl, x_11⟩, rfl, rfl, rfl, rfl, rfl, rfl, rfl, rfl⟩⟩, by rw [ht]; exact hP, va_K.moved hW.alike hK, hD⟩, hS.F ht⟩) hS.2.2 d_La_bars_22
  have hP : va_P (dC, dI) vwCl [(ho, .inl (cL, 1, .inr (.inl (aL O)))), (hx_, .inr (4, [.ref hp, .ref hst, .ref hd, .ref hfa])), (hp, .inr (2, [.int (iZ w), .int (iZ h), .int (iZ mn), .ref hw, .ref hs, .ref hk])), (hw, .inl (cL, 16384, .inr (.inl (aL u_11.1)))), (hd, .inr (0, [.int (iZ n), .ref hy])), (hy, .inl (cB, 4096, .inl (aI Y))), (hst, .inr (3, [.ref hp, .int (iZ x), .int (iZ y), .int (iZ qr), .int (iZ u_11.2.1), .int (iZ u_11.2.2.1), .int (iZ u_11.2.2.2.1), .int (iZ u_11.2.2.2.2)]))] H := hP
  have hD : va_D A [(ho, .inl (cL, 1, .inr (.inl (aL O)))), (hx_, .inr (4, [.ref hp, .ref hst, .ref hd, .ref hfa])), (hp, .inr (2, [.int (iZ w), .int (iZ h), .int (iZ mn), .ref hw, .ref hs, .ref hk])), (hw, .inl (cL, 16384, .inr (.inl (aL u_11.1)))), (hd, .inr (0, [.int (iZ n), .ref hy])), (hy, .inl (cB, 4096, .inl (aI Y))), (hst, .inr (3, [.ref hp, .int (iZ x), .int (iZ y), .int (iZ qr), .int (iZ u_11.2.1), .int (iZ u_11.2.2.1), .int (iZ u_11.2.2.2.1), .int (iZ u_11.2.2.2.2)]))] := hD
  obtain ⟨rfl, q_11⟩ := q_11
  refine lv_i2l hx hb d_La_bars_14 rfl ?_
  refine z_last hx hb hK hP hD hS 0 0 rfl rfl (by omega) (by omega) (by omega) d_La_bars_15 (fun H locs hP hD hS => ?_)
  have hP : va_P (dC, dI) vwCl [(ho, .inl (cL, 1, .inr (.inl (aL (upZ O 0 ((iZ (cnt w h (baB dr0 qr x y bh m_ n.toNat))).toInt64)))))), (hx_, .inr (4, [.ref hp, .ref hst, .ref hd, .ref hfa])), (hp, .inr (2, [.int (iZ w), .int (iZ h), .int (iZ mn), .ref hw, .ref hs, .ref hk])), (hw, .inl (cL, 16384, .inr (.inl (aL u_11.1)))), (hd, .inr (0, [.int (iZ n), .ref hy])), (hy, .inl (cB, 4096, .inl (aI Y))), (hst, .inr (3, [.ref hp, .int (iZ x), .int (iZ y), .int (iZ qr), .int (iZ u_11.2.1), .int (iZ u_11.2.2.1), .int (iZ u_11.2.2.2.1), .int (iZ u_11.2.2.2.2)]))] H := hP
  have hD : va_D A [(ho, .inl (cL, 1, .inr (.inl (aL (upZ O 0 ((iZ (cnt w h (baB dr0 qr x y bh m_ n.toNat))).toInt64)))))), (hx_, .inr (4, [.ref hp, .ref hst, .ref hd, .ref hfa])), (hp, .inr (2, [.int (iZ w), .int (iZ h), .int (iZ mn), .ref hw, .ref hs, .ref hk])), (hw, .inl (cL, 16384, .inr (.inl (aL u_11.1)))), (hd, .inr (0, [.int (iZ n), .ref hy])), (hy, .inl (cB, 4096, .inl (aI Y))), (hst, .inr (3, [.ref hp, .int (iZ x), .int (iZ y), .int (iZ qr), .int (iZ u_11.2.1), .int (iZ u_11.2.2.1), .int (iZ u_11.2.2.2.1), .int (iZ u_11.2.2.2.2)]))] := hD
  refine lv_goto (tgt := 23) hx hb d_La_bars_16 (by decide) ?_
  refine lv_iconst (v := iZ (0)) hx hb d_La_bars_23 rfl ?_
  have hP := hP.sub (ws' := [(hx_, .inr (4, [.ref hp, .ref hst, .ref hd, .ref hfa])), (hp, .inr (2, [.int (iZ w), .int (iZ h), .int (iZ mn), .ref hw, .ref hs, .ref hk])), (hw, .inl (cL, 16384, .inr (.inl (aL u_11.1)))), (hd, .inr (0, [.int (iZ n), .ref hy])), (hy, .inl (cB, 4096, .inl (aI Y))), (hst, .inr (3, [.ref hp, .int (iZ x), .int (iZ y), .int (iZ qr), .int (iZ u_11.2.1), .int (iZ u_11.2.2.1), .int (iZ u_11.2.2.2.1), .int (iZ u_11.2.2.2.2)])), (ho, .inl (cL, 1, .inr (.inl (aL (upZ O 0 ((iZ (cnt w h (baB dr0 qr x y bh m_ n.toNat))).toInt64))))))]) [1, 2, 3, 4, 5, 6, 0] rfl
  have hD := hD.sub (ws' := [(hx_, .inr (4, [.ref hp, .ref hst, .ref hd, .ref hfa])), (hp, .inr (2, [.int (iZ w), .int (iZ h), .int (iZ mn), .ref hw, .ref hs, .ref hk])), (hw, .inl (cL, 16384, .inr (.inl (aL u_11.1)))), (hd, .inr (0, [.int (iZ n), .ref hy])), (hy, .inl (cB, 4096, .inl (aI Y))), (hst, .inr (3, [.ref hp, .int (iZ x), .int (iZ y), .int (iZ qr), .int (iZ u_11.2.1), .int (iZ u_11.2.2.1), .int (iZ u_11.2.2.2.1), .int (iZ u_11.2.2.2.2)])), (ho, .inl (cL, 1, .inr (.inl (aL (upZ O 0 ((iZ (cnt w h (baB dr0 qr x y bh m_ n.toNat))).toInt64))))))]) [1, 2, 3, 4, 5, 6, 0] (by decide) rfl
  exact W.iret hx hb hr (fun t9_ ht hW => ⟨⟨_, ((u_11.1, x, y, qr, u_11.2.1, u_11.2.2.1, u_11.2.2.2.1, u_11.2.2.2.2, upZ O 0 ((iZ (cnt w h (baB dr0 qr x y bh m_ n.toNat))).toInt64))), rfl, ⟨0, rfl, Or.inl ⟨rfl, _, u_11, ⟨rfl, q_11⟩, rfl, rfl, rfl, rfl, rfl, rfl, rfl, rfl, upZ_s O 0 ((iZ (cnt w h (baB dr0 qr x y bh m_ n.toNat))).toInt64)⟩⟩, by rw [ht]; exact hP, va_K.moved hW.alike hK, hD⟩, hS.F ht⟩) hS.2.2 d_La_bars_24
theorem d_La_square_0 : decode c_yLa_square 0 = .ok (.aload 6, 2) := by decide +kernel
theorem d_La_square_2 : decode c_yLa_square 2 = .ok (.iconst 0, 1) := by decide +kernel
theorem d_La_square_3 : decode c_yLa_square 3 = .ok (.aload_n 0, 1) := by decide +kernel
theorem d_La_square_4 : decode c_yLa_square 4 = .ok (.iload_n 1, 1) := by decide +kernel
theorem d_La_square_5 : decode c_yLa_square 5 = .ok (.iload_n 2, 1) := by decide +kernel
theorem d_La_square_6 : decode c_yLa_square 6 = .ok (.iload_n 3, 1) := by decide +kernel
theorem d_La_square_7 : decode c_yLa_square 7 = .ok (.iload 4, 2) := by decide +kernel
theorem d_La_square_9 : decode c_yLa_square 9 = .ok (.iload 5, 2) := by decide +kernel
theorem d_La_square_11 : decode c_yLa_square 11 = .ok (.invokevirtual 48, 3) := by decide +kernel
theorem d_La_square_14 : decode c_yLa_square 14 = .ok (.i2l, 1) := by decide +kernel
theorem d_La_square_15 : decode c_yLa_square 15 = .ok (.lastore, 1) := by decide +kernel
theorem d_La_square_16 : decode c_yLa_square 16 = .ok (.goto 11, 3) := by decide +kernel
theorem d_La_square_19 : decode c_yLa_square 19 = .ok (.astore 7, 2) := by decide +kernel
theorem d_La_square_21 : decode c_yLa_square 21 = .ok (.iconst 1, 1) := by decide +kernel
theorem d_La_square_22 : decode c_yLa_square 22 = .ok (.ireturn, 1) := by decide +kernel
theorem d_La_square_23 : decode c_yLa_square 23 = .ok (.astore 7, 2) := by decide +kernel
theorem d_La_square_25 : decode c_yLa_square 25 = .ok (.iconst 2, 1) := by decide +kernel
theorem d_La_square_26 : decode c_yLa_square 26 = .ok (.ireturn, 1) := by decide +kernel
theorem d_La_square_27 : decode c_yLa_square 27 = .ok (.iconst 0, 1) := by decide +kernel
theorem d_La_square_28 : decode c_yLa_square 28 = .ok (.ireturn, 1) := by decide +kernel
set_option maxHeartbeats 4000000 in
set_option maxRecDepth 100000 in
theorem c_Law_square (l : Launch) (hnt : l.stackTraces = false) (dC : Nat → ClassId) (dI : Nat → Nat → Nat) (sa : Nat → Nat) (hx_ hst hd hfa hp hw hs hk : Nat) (cL : ClassId) (w h mn : Int) (G : Int → Int64) (pic : Int → Int → Bool) (hy : Nat) (cB : ClassId) (n : Int) (Y : Int → Int32) (dr : Int → Int) (sx sy sq sl sp sr sb x y sn m_ qr : Int) (ho : Nat) (O : Int → Int64) (sz : Nat) (w1 : 1 ≤ w) (w2 : w ≤ 1024) (h1 : 1 ≤ h) (h2 : h ≤ 1024) (mn1 : 0 ≤ mn) (mn2 : mn ≤ 2) (hR : Rep G pic) (n1 : 0 ≤ n) (n2 : n ≤ 4096) (hY : RepD Y n dr) (x1 : -2147483648 ≤ x) (y1 : -2147483648 ≤ y) (sn1 : -2147483648 ≤ sn) (m_1 : -2147483648 ≤ m_) (qr1 : -2147483648 ≤ qr) (x2 : x ≤ 2147483647) (y2 : y ≤ 2147483647) (sn2 : sn ≤ 2147483647) (m_2 : m_ ≤ 2147483647) (qr2 : qr ≤ 2147483647) : Met l y_La_square w_La_square ({ frames := 9, cells := 3, slots := 18, locals := 170 }) (va_Pc [.ref hx_, .int (iZ x), .int (iZ y), .int (iZ sn), .int (iZ m_), .int (iZ qr), .ref ho] (zPy (dC, dI) vwCl [(hx_, .inr (4, [.ref hp, .ref hst, .ref hd, .ref hfa])), (hp, .inr (2, [.int (iZ w), .int (iZ h), .int (iZ mn), .ref hw, .ref hs, .ref hk])), (hw, .inl (cL, 16384, .inr (.inl (aL G)))), (hd, .inr (0, [.int (iZ n), .ref hy])), (hy, .inl (cB, 4096, .inl (aI Y))), (hst, .inr (3, [.ref hp, .int (iZ sx), .int (iZ sy), .int (iZ sq), .int (iZ sl), .int (iZ sp), .int (iZ sr), .int (iZ sb)])), (ho, .inl (cL, 1, .inr (.inl (aL O))))] [(cL, .long), (cB, .byte)] sz sa)) (va_Qi (fun (r : Int32) (u : (Int → Int64) × Int × Int × Int × Int × Int × Int × Int × (Int → Int64)) => ∃ k : Int, r = iZ k ∧ ((k = 0 ∧ ∃ (r9 : Int32) (u9 : (Int → Int64) × Int × Int × Int × Int), (r9 = iZ (cnt w h (sqB dr qr x y sn m_)) ∧ (-4096 ≤ x ∧ x ≤ 4096 ∧ -4096 ≤ y ∧ y ≤ 4096 ∧ 0 ≤ qr ∧ qr ≤ 3 ∧ 1 ≤ sn ∧ sn ≤ 177 ∧ 1 ≤ m_ ∧ m_ ≤ 50 ∧ sn * sn ≤ 8 * n) ∧ Rep u9.1 (drw mn (fun px py => onB w h px py && sqB dr qr x y sn m_ px py) pic)) ∧ u.1 = u9.1 ∧ u.2.1 = x ∧ u.2.2.1 = y ∧ u.2.2.2.1 = qr ∧ u.2.2.2.2.1 = u9.2.1 ∧ u.2.2.2.2.2.1 = u9.2.2.1 ∧ u.2.2.2.2.2.2.1 = u9.2.2.2.1 ∧ u.2.2.2.2.2.2.2.1 = u9.2.2.2.2 ∧ u.2.2.2.2.2.2.2.2 0 = r9.toInt64) ∨ (((k = 1 ∧ ¬ (-4096 ≤ x ∧ x ≤ 4096 ∧ -4096 ≤ y ∧ y ≤ 4096 ∧ 0 ≤ qr ∧ qr ≤ 3 ∧ 1 ≤ sn ∧ sn ≤ 177 ∧ 1 ≤ m_ ∧ m_ ≤ 50)) ∨ (k = 2 ∧ (-4096 ≤ x ∧ x ≤ 4096 ∧ -4096 ≤ y ∧ y ≤ 4096 ∧ 0 ≤ qr ∧ qr ≤ 3 ∧ 1 ≤ sn ∧ sn ≤ 177 ∧ 1 ≤ m_ ∧ m_ ≤ 50) ∧ 8 * n < sn * sn)) ∧ u.1 = G ∧ u.2.1 = sx ∧ u.2.2.1 = sy ∧ u.2.2.2.1 = sq ∧ u.2.2.2.2.1 = sl ∧ u.2.2.2.2.2.1 = sp ∧ u.2.2.2.2.2.2.1 = sr ∧ u.2.2.2.2.2.2.2.1 = sb))) (fun u => zB (dC, dI) vwCl [(cL, .long), (cB, .byte)] (va_A [(hx_, .inr (4, [.ref hp, .ref hst, .ref hd, .ref hfa])), (hp, .inr (2, [.int (iZ w), .int (iZ h), .int (iZ mn), .ref hw, .ref hs, .ref hk])), (hw, .inl (cL, 16384, .inr (.inl (aL G)))), (hd, .inr (0, [.int (iZ n), .ref hy])), (hy, .inl (cB, 4096, .inl (aI Y))), (hst, .inr (3, [.ref hp, .int (iZ sx), .int (iZ sy), .int (iZ sq), .int (iZ sl), .int (iZ sp), .int (iZ sr), .int (iZ sb)])), (ho, .inl (cL, 1, .inr (.inl (aL O))))] sz) [(hx_, .inr (4, [.ref hp, .ref hst, .ref hd, .ref hfa])), (hp, .inr (2, [.int (iZ w), .int (iZ h), .int (iZ mn), .ref hw, .ref hs, .ref hk])), (hw, .inl (cL, 16384, .inr (.inl (aL u.1)))), (hd, .inr (0, [.int (iZ n), .ref hy])), (hy, .inl (cB, 4096, .inl (aI Y))), (hst, .inr (3, [.ref hp, .int (iZ u.2.1), .int (iZ u.2.2.1), .int (iZ u.2.2.2.1), .int (iZ u.2.2.2.2.1), .int (iZ u.2.2.2.2.2.1), .int (iZ u.2.2.2.2.2.2.1), .int (iZ u.2.2.2.2.2.2.2.1)])), (ho, .inl (cL, 1, .inr (.inl (aL u.2.2.2.2.2.2.2.2))))]) (va_A [(hx_, .inr (4, [.ref hp, .ref hst, .ref hd, .ref hfa])), (hp, .inr (2, [.int (iZ w), .int (iZ h), .int (iZ mn), .ref hw, .ref hs, .ref hk])), (hw, .inl (cL, 16384, .inr (.inl (aL G)))), (hd, .inr (0, [.int (iZ n), .ref hy])), (hy, .inl (cB, 4096, .inl (aI Y))), (hst, .inr (3, [.ref hp, .int (iZ sx), .int (iZ sy), .int (iZ sq), .int (iZ sl), .int (iZ sp), .int (iZ sr), .int (iZ sb)])), (ho, .inl (cL, 1, .inr (.inl (aL O))))] sz)) 3 18 (va_A [(hx_, .inr (4, [.ref hp, .ref hst, .ref hd, .ref hfa])), (hp, .inr (2, [.int (iZ w), .int (iZ h), .int (iZ mn), .ref hw, .ref hs, .ref hk])), (hw, .inl (cL, 16384, .inr (.inl (aL G)))), (hd, .inr (0, [.int (iZ n), .ref hy])), (hy, .inl (cB, 4096, .inl (aI Y))), (hst, .inr (3, [.ref hp, .int (iZ sx), .int (iZ sy), .int (iZ sq), .int (iZ sl), .int (iZ sp), .int (iZ sr), .int (iZ sb)])), (ho, .inl (cL, 1, .inr (.inl (aL O))))] sz) := by
  refine va_MetW (cc := c_yLa_square) (maxL := 8) (ret := (some .int)) (hh := [((0 : Nat), (16 : Nat), (19 : Nat), (13 : Nat)), ((0 : Nat), (16 : Nat), (23 : Nat), (51 : Nat))]) (by decide) rfl ?_
  intro p e s m args below meth c s₁ B hml hv
  obtain ⟨rfl, ⟨hsz, hP, hK, hD0, hXK⟩, hyN⟩ := hv
  have hx := B.exec
  have hb := B.bytes
  have hr := B.returns
  have hts0 := atoms_spec (ws := w_La_square) B.pre
  have hts : ∀ w ∈ gT, w.before _ s = true := fun w h => hts0 w (List.mem_cons_of_mem _ h)
  have hown : s.vm.findClass R_La = some m.cls := findClass_of_methodNamed B.named
  have hlocks := B.notSynchronized
  have htb : c.exceptionTable.toList = tableOf ([((0 : Nat), (16 : Nat), (19 : Nat), (13 : Nat)), ((0 : Nat), (16 : Nat), (23 : Nat), (51 : Nat))]) := vx_table (x := y_La_square) B (hts0 _ List.mem_cons_self)
  subst hsz
  have hD := hD0.self (sz := s.heap.size)
  generalize hAe : va_A [(hx_, .inr (4, [.ref hp, .ref hst, .ref hd, .ref hfa])), (hp, .inr (2, [.int (iZ w), .int (iZ h), .int (iZ mn), .ref hw, .ref hs, .ref hk])), (hw, .inl (cL, 16384, .inr (.inl (aL G)))), (hd, .inr (0, [.int (iZ n), .ref hy])), (hy, .inl (cB, 4096, .inl (aI Y))), (hst, .inr (3, [.ref hp, .int (iZ sx), .int (iZ sy), .int (iZ sq), .int (iZ sl), .int (iZ sp), .int (iZ sr), .int (iZ sb)])), (ho, .inl (cL, 1, .inr (.inl (aL O))))] s.heap.size = A at hD hXK ⊢
  have hA : ∀ q : Nat, s.heap.size ≤ q → A q := fun q h => by rw [← hAe]; exact Or.inr h
  obtain ⟨H, hH⟩ : ∃ H, s.heap = H := ⟨_, rfl⟩
  have hS : va_S A s.heap H [] := by rw [← hH]; exact va_S.rf
  rw [hH] at hP
  rw [hH]
  have hl := lv_entry ([.ref hx_, .int (iZ x), .int (iZ y), .int (iZ sn), .int (iZ m_), .int (iZ qr), .ref ho]) (n := 8) (Nat.le_of_ble_eq_true rfl)
  rw [lg_entry_eq]
  generalize (lg_sl ([.ref hx_, .int (iZ x), .int (iZ y), .int (iZ sn), .int (iZ m_), .int (iZ qr), .ref ho]) ++ List.replicate (8 - (lg_sl ([.ref hx_, .int (iZ x), .int (iZ y), .int (iZ sn), .int (iZ m_), .int (iZ qr), .ref ho])).length) Slot.unset).toArray = ls at hl ⊢
  have hl : lv_has ls 8 [(0, .ref hx_), (1, .int (iZ x)), (2, .int (iZ y)), (3, .int (iZ sn)), (4, .int (iZ m_)), (5, .int (iZ qr)), (6, .ref ho)] := hl
  refine lv_aload hx hb d_La_square_0 (lv_at hl 6 rfl) ?_
  refine lv_iconst (v := iZ (0)) hx hb d_La_square_2 rfl ?_
  refine lv_aload_n hx hb d_La_square_3 rfl (lv_at hl 0 rfl) ?_
  refine lv_iload_n hx hb d_La_square_4 rfl (lv_at hl 1 rfl) ?_
  refine lv_iload_n hx hb d_La_square_5 rfl (lv_at hl 2 rfl) ?_
  refine lv_iload_n hx hb d_La_square_6 rfl (lv_at hl 3 rfl) ?_
  refine lv_iload hx hb d_La_square_7 (lv_at hl 4 rfl) ?_
  refine lv_iload hx hb d_La_square_9 (lv_at hl 5 rfl) ?_
  refine zx_i (w1 := fun (u_11 : (Int → Int64) × Int × Int × Int × Int) => [(hx_, .inr (4, [.ref hp, .ref hst, .ref hd, .ref hfa])), (hp, .inr (2, [.int (iZ w), .int (iZ h), .int (iZ mn), .ref hw, .ref hs, .ref hk])), (hw, .inl (cL, 16384, .inr (.inl (aL u_11.1)))), (hd, .inr (0, [.int (iZ n), .ref hy])), (hy, .inl (cB, 4096, .inl (aI Y))), (hst, .inr (3, [.ref hp, .int (iZ x), .int (iZ y), .int (iZ qr), .int (iZ u_11.2.1), .int (iZ u_11.2.2.1), .int (iZ u_11.2.2.2.1), .int (iZ u_11.2.2.2.2)]))]) (wr := [(ho, .inl (cL, 1, .inr (.inl (aL O))))]) (vx_runV (As := [.int (iZ x), .int (iZ y), .int (iZ sn), .int (iZ m_), .int (iZ qr)]) (rest := [.int (iZ 0), .ref ho]) ⟨hx, hb, hml, hown, hts⟩ (c_DotSheet_square l hnt dC dI sa hx_ hst hd hfa hp hw hs hk cL w h mn G pic hy cB n Y dr sx sy sq sl sp sr sb x y sn m_ qr H.size (by first | omega | assumption) (by first | omega | assumption) (by first | omega | assumption) (by first | omega | assumption) (by first | omega | assumption) (by first | omega | assumption) (by first | omega | assumption) (by first | omega | assumption) (by first | omega | assumption) (by first | omega | assumption) (by first | omega | assumption) (by first | omega | assumption) (by first | omega | assumption) (by first | omega | assumption) (by first | omega | assumption) (by first | omega | assumption) (by first | omega | assumption) (by first | omega | assumption) (by first | omega | assumption) (by first | omega | assumption)) (cwV 5 hts (gV t_521 t_522 t_523 t_1 t_524) rfl rfl rfl (by decide +kernel) ⟨Nat.le_of_ble_eq_true rfl, Nat.le_of_ble_eq_true rfl⟩) ⟨zPx_blind, va_recv hK hP (ci := 4) (q0 := 0) rfl rfl, zPx_pre hP hD hK hXK hS hA [0, 1, 2, 3, 4, 5] [0, 1] rfl rfl rfl rfl⟩ rfl rfl hl.1 rfl (lv_room (Nat.le_of_ble_eq_true rfl)) d_La_square_11 ⟨Nat.le_of_ble_eq_true rfl, Nat.le_of_ble_eq_true rfl⟩) hP hD hS hA [0, 1, 2, 3, 4, 5] [6] rfl rfl rfl (by decide) (fun E_ ce_ q9_ H locs x_11 hP hD hS hce hcv hcl => ?_) (fun r_11 u_11 H locs q_11 hP hD hS => ?_)
  · have hP : va_P (dC, dI) vwCl [(ho, .inl (cL, 1, .inr (.inl (aL O)))), (hx_, .inr (4, [.ref hp, .ref hst, .ref hd, .ref hfa])), (hp, .inr (2, [.int (iZ w), .int (iZ h), .int (iZ mn), .ref hw, .ref hs, .ref hk])), (hw, .inl (cL, 16384, .inr (.inl (aL G)))), (hd, .inr (0, [.int (iZ n), .ref hy])), (hy, .inl (cB, 4096, .inl (aI Y))), (hst, .inr (3, [.ref hp, .int (iZ sx), .int (iZ sy), .int (iZ sq), .int (iZ sl), .int (iZ sp), .int (iZ sr), .int (iZ sb)]))] H := hP
    have hD : va_D A [(ho, .inl (cL, 1, .inr (.inl (aL O)))), (hx_, .inr (4, [.ref hp, .ref hst, .ref hd, .ref hfa])), (hp, .inr (2, [.int (iZ w), .int (iZ h), .int (iZ mn), .ref hw, .ref hs, .ref hk])), (hw, .inl (cL, 16384, .inr (.inl (aL G)))), (hd, .inr (0, [.int (iZ n), .ref hy])), (hy, .inl (cB, 4096, .inl (aI Y))), (hst, .inr (3, [.ref hp, .int (iZ sx), .int (iZ sy), .int (iZ sq), .int (iZ sl), .int (iZ sp), .int (iZ sr), .int (iZ sb)]))] := hD
    rcases x_11 with ⟨rfl, x_11⟩ | ⟨rfl, x_11⟩
    · refine vx_catch (own := R_La) (name := "java/lang/IllegalArgumentException") hown [] ⟨0, 16, 19, 13⟩ [⟨0, 16, 23, 51⟩] htb (fun z hz => nomatch hz) (by decide) (by decide) (hts _ t_146) (va_Nw.use rfl (hXK.1 _ xc_A)) hce hcv hcl ?_
      refine lv_astore (lv' := [(7, .ref q9_), (0, .ref hx_), (1, .int (iZ x)), (2, .int (iZ y)), (3, .int (iZ sn)), (4, .int (iZ m_)), (5, .int (iZ qr)), (6, .ref ho)]) hx hb d_La_square_19 hl (by decide) rfl (fun ls hl => ?_)
      refine lv_iconst (v := iZ (1)) hx hb d_La_square_21 rfl ?_
      have hP := hP.sub (ws' := [(hx_, .inr (4, [.ref hp, .ref hst, .ref hd, .ref hfa])), (hp, .inr (2, [.int (iZ w), .int (iZ h), .int (iZ mn), .ref hw, .ref hs, .ref hk])), (hw, .inl (cL, 16384, .inr (.inl (aL G)))), (hd, .inr (0, [.int (iZ n), .ref hy])), (hy, .inl (cB, 4096, .inl (aI Y))), (hst, .inr (3, [.ref hp, .int (iZ sx), .int (iZ sy), .int (iZ sq), .int (iZ sl), .int (iZ sp), .int (iZ sr), .int (iZ sb)])), (ho, .inl (cL, 1, .inr (.inl (aL O))))]) [1, 2, 3, 4, 5, 6, 0] rfl
      have hD := hD.sub (ws' := [(hx_, .inr (4, [.ref hp, .ref hst, .ref hd, .ref hfa])), (hp, .inr (2, [.int (iZ w), .int (iZ h), .int (iZ mn), .ref hw, .ref hs, .ref hk])), (hw, .inl (cL, 16384, .inr (.inl (aL G)))), (hd, .inr (0, [.int (iZ n), .ref hy])), (hy, .inl (cB, 4096, .inl (aI Y))), (hst, .inr (3, [.ref hp, .int (iZ sx), .int (iZ sy), .int (iZ sq), .int (iZ sl), .int (iZ sp), .int (iZ sr), .int (iZ sb)])), (ho, .inl (cL, 1, .inr (.inl (aL O))))]) [1, 2, 3, 4, 5, 6, 0] (by decide) rfl
      exact W.iret hx hb hr (fun t9_ ht hW => ⟨⟨_, ((G, sx, sy, sq, sl, sp, sr, sb, O)), rfl, ⟨1, rfl, Or.inr ⟨Or.inl ⟨rfl, x_11⟩, rfl, rfl, rfl, rfl, rfl, rfl, rfl, rfl⟩⟩, by rw [ht]; exact hP, va_K.moved hW.alike hK, hD⟩, hS.F ht⟩) hS.2.2 d_La_square_22
    · refine vx_catch (own := R_La) (name := "java/lang/IllegalStateException") hown [⟨0, 16, 19, 13⟩] ⟨0, 16, 23, 51⟩ [] htb (fun z hz => by cases List.mem_singleton.mp hz; exact Or.inr ⟨by decide, _, hts _ t_146, hyN.2⟩) (by decide) (by decide) (hts _ t_520) (va_Nw.use rfl (hXK.1 _ xc_S)) hce hcv hcl ?_
      refine lv_astore (lv' := [(7, .ref q9_), (0, .ref hx_), (1, .int (iZ x)), (2, .int (iZ y)), (3, .int (iZ sn)), (4, .int (iZ m_)), (5, .int (iZ qr)), (6, .ref ho)]) hx hb d_La_square_23 hl (by decide) rfl (fun ls hl => ?_)
      refine lv_iconst (v := iZ (2)) hx hb d_La_square_25 rfl ?_
      have hP := hP.sub (ws' := [(hx_, .inr (4, [.ref hp, .ref hst, .ref hd, .ref hfa])), (hp, .inr (2, [.int (iZ w), .int (iZ h), .int (iZ mn), .ref hw, .ref hs, .ref hk])), (hw, .inl (cL, 16384, .inr (.inl (aL G)))), (hd, .inr (0, [.int (iZ n), .ref hy])), (hy, .inl (cB, 4096, .inl (aI Y))), (hst, .inr (3, [.ref hp, .int (iZ sx), .int (iZ sy), .int (iZ sq), .int (iZ sl), .int (iZ sp), .int (iZ sr), .int (iZ sb)])), (ho, .inl (cL, 1, .inr (.inl (aL O))))]) [1, 2, 3, 4, 5, 6, 0] rfl
      have hD := hD.sub (ws' := [(hx_, .inr (4, [.ref hp, .ref hst, .ref hd, .ref hfa])), (hp, .inr (2, [.int (iZ w), .int (iZ h), .int (iZ mn), .ref hw, .ref hs, .ref hk])), (hw, .inl (cL, 16384, .inr (.inl (aL G)))), (hd, .inr (0, [.int (iZ n), .ref hy])), (hy, .inl (cB, 4096, .inl (aI Y))), (hst, .inr (3, [.ref hp, .int (iZ sx), .int (iZ sy), .int (iZ sq), .int (iZ sl), .int (iZ sp), .int (iZ sr), .int (iZ sb)])), (ho, .inl (cL, 1, .inr (.inl (aL O))))]) [1, 2, 3, 4, 5, 6, 0] (by decide) rfl
      exact W.iret hx hb hr (fun t9_ ht hW => ⟨⟨_, ((G, sx, sy, sq, sl, sp, sr, sb, O)), rfl, ⟨2, rfl, Or.inr ⟨Or.inr ⟨rfl, x_11⟩, rfl, rfl, rfl, rfl, rfl, rfl, rfl, rfl⟩⟩, by rw [ht]; exact hP, va_K.moved hW.alike hK, hD⟩, hS.F ht⟩) hS.2.2 d_La_square_26
  have hP : va_P (dC, dI) vwCl [(ho, .inl (cL, 1, .inr (.inl (aL O)))), (hx_, .inr (4, [.ref hp, .ref hst, .ref hd, .ref hfa])), (hp, .inr (2, [.int (iZ w), .int (iZ h), .int (iZ mn), .ref hw, .ref hs, .ref hk])), (hw, .inl (cL, 16384, .inr (.inl (aL u_11.1)))), (hd, .inr (0, [.int (iZ n), .ref hy])), (hy, .inl (cB, 4096, .inl (aI Y))), (hst, .inr (3, [.ref hp, .int (iZ x), .int (iZ y), .int (iZ qr), .int (iZ u_11.2.1), .int (iZ u_11.2.2.1), .int (iZ u_11.2.2.2.1), .int (iZ u_11.2.2.2.2)]))] H := hP
  have hD : va_D A [(ho, .inl (cL, 1, .inr (.inl (aL O)))), (hx_, .inr (4, [.ref hp, .ref hst, .ref hd, .ref hfa])), (hp, .inr (2, [.int (iZ w), .int (iZ h), .int (iZ mn), .ref hw, .ref hs, .ref hk])), (hw, .inl (cL, 16384, .inr (.inl (aL u_11.1)))), (hd, .inr (0, [.int (iZ n), .ref hy])), (hy, .inl (cB, 4096, .inl (aI Y))), (hst, .inr (3, [.ref hp, .int (iZ x), .int (iZ y), .int (iZ qr), .int (iZ u_11.2.1), .int (iZ u_11.2.2.1), .int (iZ u_11.2.2.2.1), .int (iZ u_11.2.2.2.2)]))] := hD
  obtain ⟨rfl, q_11⟩ := q_11
  refine lv_i2l hx hb d_La_square_14 rfl ?_
  refine z_last hx hb hK hP hD hS 0 0 rfl rfl (by omega) (by omega) (by omega) d_La_square_15 (fun H locs hP hD hS => ?_)
  have hP : va_P (dC, dI) vwCl [(ho, .inl (cL, 1, .inr (.inl (aL (upZ O 0 ((iZ (cnt w h (sqB dr qr x y sn m_))).toInt64)))))), (hx_, .inr (4, [.ref hp, .ref hst, .ref hd, .ref hfa])), (hp, .inr (2, [.int (iZ w), .int (iZ h), .int (iZ mn), .ref hw, .ref hs, .ref hk])), (hw, .inl (cL, 16384, .inr (.inl (aL u_11.1)))), (hd, .inr (0, [.int (iZ n), .ref hy])), (hy, .inl (cB, 4096, .inl (aI Y))), (hst, .inr (3, [.ref hp, .int (iZ x), .int (iZ y), .int (iZ qr), .int (iZ u_11.2.1), .int (iZ u_11.2.2.1), .int (iZ u_11.2.2.2.1), .int (iZ u_11.2.2.2.2)]))] H := hP
  have hD : va_D A [(ho, .inl (cL, 1, .inr (.inl (aL (upZ O 0 ((iZ (cnt w h (sqB dr qr x y sn m_))).toInt64)))))), (hx_, .inr (4, [.ref hp, .ref hst, .ref hd, .ref hfa])), (hp, .inr (2, [.int (iZ w), .int (iZ h), .int (iZ mn), .ref hw, .ref hs, .ref hk])), (hw, .inl (cL, 16384, .inr (.inl (aL u_11.1)))), (hd, .inr (0, [.int (iZ n), .ref hy])), (hy, .inl (cB, 4096, .inl (aI Y))), (hst, .inr (3, [.ref hp, .int (iZ x), .int (iZ y), .int (iZ qr), .int (iZ u_11.2.1), .int (iZ u_11.2.2.1), .int (iZ u_11.2.2.2.1), .int (iZ u_11.2.2.2.2)]))] := hD
  refine lv_goto (tgt := 27) hx hb d_La_square_16 (by decide) ?_
  refine lv_iconst (v := iZ (0)) hx hb d_La_square_27 rfl ?_
  have hP := hP.sub (ws' := [(hx_, .inr (4, [.ref hp, .ref hst, .ref hd, .ref hfa])), (hp, .inr (2, [.int (iZ w), .int (iZ h), .int (iZ mn), .ref hw, .ref hs, .ref hk])), (hw, .inl (cL, 16384, .inr (.inl (aL u_11.1)))), (hd, .inr (0, [.int (iZ n), .ref hy])), (hy, .inl (cB, 4096, .inl (aI Y))), (hst, .inr (3, [.ref hp, .int (iZ x), .int (iZ y), .int (iZ qr), .int (iZ u_11.2.1), .int (iZ u_11.2.2.1), .int (iZ u_11.2.2.2.1), .int (iZ u_11.2.2.2.2)])), (ho, .inl (cL, 1, .inr (.inl (aL (upZ O 0 ((iZ (cnt w h (sqB dr qr x y sn m_))).toInt64))))))]) [1, 2, 3, 4, 5, 6, 0] rfl
  have hD := hD.sub (ws' := [(hx_, .inr (4, [.ref hp, .ref hst, .ref hd, .ref hfa])), (hp, .inr (2, [.int (iZ w), .int (iZ h), .int (iZ mn), .ref hw, .ref hs, .ref hk])), (hw, .inl (cL, 16384, .inr (.inl (aL u_11.1)))), (hd, .inr (0, [.int (iZ n), .ref hy])), (hy, .inl (cB, 4096, .inl (aI Y))), (hst, .inr (3, [.ref hp, .int (iZ x), .int (iZ y), .int (iZ qr), .int (iZ u_11.2.1), .int (iZ u_11.2.2.1), .int (iZ u_11.2.2.2.1), .int (iZ u_11.2.2.2.2)])), (ho, .inl (cL, 1, .inr (.inl (aL (upZ O 0 ((iZ (cnt w h (sqB dr qr x y sn m_))).toInt64))))))]) [1, 2, 3, 4, 5, 6, 0] (by decide) rfl
  exact W.iret hx hb hr (fun t9_ ht hW => ⟨⟨_, ((u_11.1, x, y, qr, u_11.2.1, u_11.2.2.1, u_11.2.2.2.1, u_11.2.2.2.2, upZ O 0 ((iZ (cnt w h (sqB dr qr x y sn m_))).toInt64))), rfl, ⟨0, rfl, Or.inl ⟨rfl, _, u_11, ⟨rfl, q_11⟩, rfl, rfl, rfl, rfl, rfl, rfl, rfl, rfl, upZ_s O 0 ((iZ (cnt w h (sqB dr qr x y sn m_))).toInt64)⟩⟩, by rw [ht]; exact hP, va_K.moved hW.alike hK, hD⟩, hS.F ht⟩) hS.2.2 d_La_square_28
theorem d_La_turn_0 : decode c_yLa_turn 0 = .ok (.aload_n 0, 1) := by decide +kernel
theorem d_La_turn_1 : decode c_yLa_turn 1 = .ok (.iload_n 1, 1) := by decide +kernel
theorem d_La_turn_2 : decode c_yLa_turn 2 = .ok (.invokevirtual 57, 3) := by decide +kernel
theorem d_La_turn_5 : decode c_yLa_turn 5 = .ok (.goto 6, 3) := by decide +kernel
theorem d_La_turn_8 : decode c_yLa_turn 8 = .ok (.astore_n 2, 1) := by decide +kernel
theorem d_La_turn_9 : decode c_yLa_turn 9 = .ok (.iconst 1, 1) := by decide +kernel
theorem d_La_turn_10 : decode c_yLa_turn 10 = .ok (.ireturn, 1) := by decide +kernel
theorem d_La_turn_11 : decode c_yLa_turn 11 = .ok (.iconst 0, 1) := by decide +kernel
theorem d_La_turn_12 : decode c_yLa_turn 12 = .ok (.ireturn, 1) := by decide +kernel
set_option maxHeartbeats 4000000 in
set_option maxRecDepth 100000 in
theorem c_Law_turn (l : Launch) (hnt : l.stackTraces = false) (dC : Nat → ClassId) (dI : Nat → Nat → Nat) (sa : Nat → Nat) (hx_ hst hd hfa hp hw hs hk : Nat) (cL : ClassId) (w h mn : Int) (G : Int → Int64) (pic : Int → Int → Bool) (Sp Bk : Int → Int64) (qr : Int) (sz : Nat) (w1 : 1 ≤ w) (w2 : w ≤ 1024) (h1 : 1 ≤ h) (h2 : h ≤ 1024) (hR : Rep G pic) (hO : Off w h pic) (qr1 : -2147483648 ≤ qr) (qr2 : qr ≤ 2147483647) : Met l y_La_turn w_La_turn ({ frames := 8, cells := 1, slots := 6, locals := 142 }) (va_Pc [.ref hx_, .int (iZ qr)] (zPy (dC, dI) vwCl [(hx_, .inr (4, [.ref hp, .ref hst, .ref hd, .ref hfa])), (hp, .inr (2, [.int (iZ w), .int (iZ h), .int (iZ mn), .ref hw, .ref hs, .ref hk])), (hw, .inl (cL, 16384, .inr (.inl (aL G)))), (hs, .inl (cL, 16384, .inr (.inl (aL Sp)))), (hk, .inl (cL, 64, .inr (.inl (aL Bk))))] [(cL, .long)] sz sa)) (va_Qi (fun (r : Int32) (u : Int × Int × Nat × Nat × (Int → Int64) × (Int → Int64) × (Int → Int64)) => ∃ k : Int, r = iZ k ∧ ((k = 0 ∧ ∃ (u9 : Int × Int × Nat × Nat × (Int → Int64) × (Int → Int64) × (Int → Int64)), ((0 ≤ qr ∧ qr ≤ 3) ∧ u9.1 = (trN w h pic qr.toNat).1 ∧ u9.2.1 = (trN w h pic qr.toNat).2.1 ∧ Rep u9.2.2.2.2.1 (trN w h pic qr.toNat).2.2) ∧ u.1 = u9.1 ∧ u.2.1 = u9.2.1 ∧ u.2.2.1 = u9.2.2.1 ∧ u.2.2.2.1 = u9.2.2.2.1 ∧ u.2.2.2.2.1 = u9.2.2.2.2.1 ∧ u.2.2.2.2.2.1 = u9.2.2.2.2.2.1 ∧ u.2.2.2.2.2.2 = u9.2.2.2.2.2.2) ∨ ((k = 1 ∧ ¬ (0 ≤ qr ∧ qr ≤ 3)) ∧ u.1 = w ∧ u.2.1 = h ∧ u.2.2.1 = hw ∧ u.2.2.2.1 = hs ∧ u.2.2.2.2.1 = G ∧ u.2.2.2.2.2.1 = Sp ∧ u.2.2.2.2.2.2 = Bk))) (fun u => zB (dC, dI) vwCl [(cL, .long)] (va_A [(hx_, .inr (4, [.ref hp, .ref hst, .ref hd, .ref hfa])), (hp, .inr (2, [.int (iZ w), .int (iZ h), .int (iZ mn), .ref hw, .ref hs, .ref hk])), (hw, .inl (cL, 16384, .inr (.inl (aL G)))), (hs, .inl (cL, 16384, .inr (.inl (aL Sp)))), (hk, .inl (cL, 64, .inr (.inl (aL Bk))))] sz) [(hx_, .inr (4, [.ref hp, .ref hst, .ref hd, .ref hfa])), (hp, .inr (2, [.int (iZ u.1), .int (iZ u.2.1), .int (iZ mn), .ref u.2.2.1, .ref u.2.2.2.1, .ref hk])), (u.2.2.1, .inl (cL, 16384, .inr (.inl (aL u.2.2.2.2.1)))), (u.2.2.2.1, .inl (cL, 16384, .inr (.inl (aL u.2.2.2.2.2.1)))), (hk, .inl (cL, 64, .inr (.inl (aL u.2.2.2.2.2.2))))]) (va_A [(hx_, .inr (4, [.ref hp, .ref hst, .ref hd, .ref hfa])), (hp, .inr (2, [.int (iZ w), .int (iZ h), .int (iZ mn), .ref hw, .ref hs, .ref hk])), (hw, .inl (cL, 16384, .inr (.inl (aL G)))), (hs, .inl (cL, 16384, .inr (.inl (aL Sp)))), (hk, .inl (cL, 64, .inr (.inl (aL Bk))))] sz)) 1 6 (va_A [(hx_, .inr (4, [.ref hp, .ref hst, .ref hd, .ref hfa])), (hp, .inr (2, [.int (iZ w), .int (iZ h), .int (iZ mn), .ref hw, .ref hs, .ref hk])), (hw, .inl (cL, 16384, .inr (.inl (aL G)))), (hs, .inl (cL, 16384, .inr (.inl (aL Sp)))), (hk, .inl (cL, 64, .inr (.inl (aL Bk))))] sz) := by
  refine va_MetW (cc := c_yLa_turn) (maxL := 3) (ret := (some .int)) (hh := [((0 : Nat), (5 : Nat), (8 : Nat), (13 : Nat))]) (by decide) rfl ?_
  intro p e s m args below meth c s₁ B hml hv
  obtain ⟨rfl, ⟨hsz, hP, hK, hD0, hXK⟩, hyN⟩ := hv
  have hx := B.exec
  have hb := B.bytes
  have hr := B.returns
  have hts0 := atoms_spec (ws := w_La_turn) B.pre
  have hts : ∀ w ∈ gT, w.before _ s = true := fun w h => hts0 w (List.mem_cons_of_mem _ h)
  have hown : s.vm.findClass R_La = some m.cls := findClass_of_methodNamed B.named
  have hlocks := B.notSynchronized
  have htb : c.exceptionTable.toList = tableOf ([((0 : Nat), (5 : Nat), (8 : Nat), (13 : Nat))]) := vx_table (x := y_La_turn) B (hts0 _ List.mem_cons_self)
  subst hsz
  have hD := hD0.self (sz := s.heap.size)
  generalize hAe : va_A [(hx_, .inr (4, [.ref hp, .ref hst, .ref hd, .ref hfa])), (hp, .inr (2, [.int (iZ w), .int (iZ h), .int (iZ mn), .ref hw, .ref hs, .ref hk])), (hw, .inl (cL, 16384, .inr (.inl (aL G)))), (hs, .inl (cL, 16384, .inr (.inl (aL Sp)))), (hk, .inl (cL, 64, .inr (.inl (aL Bk))))] s.heap.size = A at hD hXK ⊢
  have hA : ∀ q : Nat, s.heap.size ≤ q → A q := fun q h => by rw [← hAe]; exact Or.inr h
  obtain ⟨H, hH⟩ : ∃ H, s.heap = H := ⟨_, rfl⟩
  have hS : va_S A s.heap H [] := by rw [← hH]; exact va_S.rf
  rw [hH] at hP
  rw [hH]
  have hl := lv_entry ([.ref hx_, .int (iZ qr)]) (n := 3) (Nat.le_of_ble_eq_true rfl)
  rw [lg_entry_eq]
  generalize (lg_sl ([.ref hx_, .int (iZ qr)]) ++ List.replicate (3 - (lg_sl ([.ref hx_, .int (iZ qr)])).length) Slot.unset).toArray = ls at hl ⊢
  have hl : lv_has ls 3 [(0, .ref hx_), (1, .int (iZ qr))] := hl
  refine lv_aload_n hx hb d_La_turn_0 rfl (lv_at hl 0 rfl) ?_
  refine lv_iload_n hx hb d_La_turn_1 rfl (lv_at hl 1 rfl) ?_
  refine zx_v (w1 := fun (u_2 : Int × Int × Nat × Nat × (Int → Int64) × (Int → Int64) × (Int → Int64)) => [(hx_, .inr (4, [.ref hp, .ref hst, .ref hd, .ref hfa])), (hp, .inr (2, [.int (iZ u_2.1), .int (iZ u_2.2.1), .int (iZ mn), .ref u_2.2.2.1, .ref u_2.2.2.2.1, .ref hk])), (u_2.2.2.1, .inl (cL, 16384, .inr (.inl (aL u_2.2.2.2.2.1)))), (u_2.2.2.2.1, .inl (cL, 16384, .inr (.inl (aL u_2.2.2.2.2.2.1)))), (hk, .inl (cL, 64, .inr (.inl (aL u_2.2.2.2.2.2.2))))]) (wr := []) (vx_runV (As := [.int (iZ qr)]) (rest := []) ⟨hx, hb, hml, hown, hts⟩ (c_DotSheet_turn l hnt dC dI sa hx_ hst hd hfa hp hw hs hk cL w h mn G pic Sp Bk qr H.size (by first | omega | assumption) (by first | omega | assumption) (by first | omega | assumption) (by first | omega | assumption) (by first | omega | assumption) (by first | omega | assumption) (by first | omega | assumption) (by first | omega | assumption)) (cwV 1 hts (gV t_557 t_558 t_559 t_1 t_560) rfl rfl rfl (by decide +kernel) ⟨Nat.le_of_ble_eq_true rfl, Nat.le_of_ble_eq_true rfl⟩) ⟨zPx_blind, va_recv hK hP (ci := 4) (q0 := 0) rfl rfl, zPx_pre hP hD hK hXK hS hA [0, 1, 2, 3, 4] [0] rfl rfl rfl rfl⟩ rfl rfl hl.1 rfl (lv_room (Nat.le_of_ble_eq_true rfl)) d_La_turn_2 ⟨Nat.le_of_ble_eq_true rfl, Nat.le_of_ble_eq_true rfl⟩) hP hD hS hA [0, 1, 2, 3, 4] [] rfl rfl rfl (by decide) (fun E_ ce_ q9_ H locs x_2 hP hD hS hce hcv hcl => ?_) (fun u_2 H locs q_2 hP hD hS => ?_)
  · have hP : va_P (dC, dI) vwCl [(hx_, .inr (4, [.ref hp, .ref hst, .ref hd, .ref hfa])), (hp, .inr (2, [.int (iZ w), .int (iZ h), .int (iZ mn), .ref hw, .ref hs, .ref hk])), (hw, .inl (cL, 16384, .inr (.inl (aL G)))), (hs, .inl (cL, 16384, .inr (.inl (aL Sp)))), (hk, .inl (cL, 64, .inr (.inl (aL Bk))))] H := hP
    have hD : va_D A [(hx_, .inr (4, [.ref hp, .ref hst, .ref hd, .ref hfa])), (hp, .inr (2, [.int (iZ w), .int (iZ h), .int (iZ mn), .ref hw, .ref hs, .ref hk])), (hw, .inl (cL, 16384, .inr (.inl (aL G)))), (hs, .inl (cL, 16384, .inr (.inl (aL Sp)))), (hk, .inl (cL, 64, .inr (.inl (aL Bk))))] := hD
    obtain ⟨rfl, x_2⟩ := x_2
    refine vx_catch (own := R_La) (name := "java/lang/IllegalArgumentException") hown [] ⟨0, 5, 8, 13⟩ [] htb (fun z hz => nomatch hz) (by decide) (by decide) (hts _ t_146) (va_Nw.use rfl (hXK.1 _ xc_A)) hce hcv hcl ?_
    refine lv_astore_n (lv' := [(2, .ref q9_), (0, .ref hx_), (1, .int (iZ qr))]) hx hb d_La_turn_8 rfl hl (by decide) rfl (fun ls hl => ?_)
    refine lv_iconst (v := iZ (1)) hx hb d_La_turn_9 rfl ?_
    exact W.iret hx hb hr (fun t9_ ht hW => ⟨⟨_, ((w, h, hw, hs, G, Sp, Bk)), rfl, ⟨1, rfl, Or.inr ⟨⟨rfl, x_2⟩, rfl, rfl, rfl, rfl, rfl, rfl, rfl⟩⟩, by rw [ht]; exact hP, va_K.moved hW.alike hK, hD⟩, hS.F ht⟩) hS.2.2 d_La_turn_10
  have hP : va_P (dC, dI) vwCl [(hx_, .inr (4, [.ref hp, .ref hst, .ref hd, .ref hfa])), (hp, .inr (2, [.int (iZ u_2.1), .int (iZ u_2.2.1), .int (iZ mn), .ref u_2.2.2.1, .ref u_2.2.2.2.1, .ref hk])), (u_2.2.2.1, .inl (cL, 16384, .inr (.inl (aL u_2.2.2.2.2.1)))), (u_2.2.2.2.1, .inl (cL, 16384, .inr (.inl (aL u_2.2.2.2.2.2.1)))), (hk, .inl (cL, 64, .inr (.inl (aL u_2.2.2.2.2.2.2))))] H := hP
  have hD : va_D A [(hx_, .inr (4, [.ref hp, .ref hst, .ref hd, .ref hfa])), (hp, .inr (2, [.int (iZ u_2.1), .int (iZ u_2.2.1), .int (iZ mn), .ref u_2.2.2.1, .ref u_2.2.2.2.1, .ref hk])), (u_2.2.2.1, .inl (cL, 16384, .inr (.inl (aL u_2.2.2.2.2.1)))), (u_2.2.2.2.1, .inl (cL, 16384, .inr (.inl (aL u_2.2.2.2.2.2.1)))), (hk, .inl (cL, 64, .inr (.inl (aL u_2.2.2.2.2.2.2))))] := hD
  refine lv_goto (tgt := 11) hx hb d_La_turn_5 (by decide) ?_
  refine lv_iconst (v := iZ (0)) hx hb d_La_turn_11 rfl ?_
  exact W.iret hx hb hr (fun t9_ ht hW => ⟨⟨_, ((u_2.1, u_2.2.1, u_2.2.2.1, u_2.2.2.2.1, u_2.2.2.2.2.1, u_2.2.2.2.2.2.1, u_2.2.2.2.2.2.2)), rfl, ⟨0, rfl, Or.inl ⟨rfl, u_2, q_2, rfl, rfl, rfl, rfl, rfl, rfl, rfl⟩⟩, by rw [ht]; exact hP, va_K.moved hW.alike hK, hD⟩, hS.F ht⟩) hS.2.2 d_La_turn_12
theorem d_La_told_0 : decode c_yLa_told 0 = .ok (.aload_n 2, 1) := by decide +kernel
theorem d_La_told_1 : decode c_yLa_told 1 = .ok (.iconst 0, 1) := by decide +kernel
theorem d_La_told_2 : decode c_yLa_told 2 = .ok (.aload_n 0, 1) := by decide +kernel
theorem d_La_told_3 : decode c_yLa_told 3 = .ok (.iload_n 1, 1) := by decide +kernel
theorem d_La_told_4 : decode c_yLa_told 4 = .ok (.invokevirtual 61, 3) := by decide +kernel
theorem d_La_told_7 : decode c_yLa_told 7 = .ok (.i2l, 1) := by decide +kernel
theorem d_La_told_8 : decode c_yLa_told 8 = .ok (.lastore, 1) := by decide +kernel
theorem d_La_told_9 : decode c_yLa_told 9 = .ok (.goto 6, 3) := by decide +kernel
theorem d_La_told_12 : decode c_yLa_told 12 = .ok (.astore_n 3, 1) := by decide +kernel
theorem d_La_told_13 : decode c_yLa_told 13 = .ok (.iconst 1, 1) := by decide +kernel
theorem d_La_told_14 : decode c_yLa_told 14 = .ok (.ireturn, 1) := by decide +kernel
theorem d_La_told_15 : decode c_yLa_told 15 = .ok (.iconst 0, 1) := by decide +kernel
theorem d_La_told_16 : decode c_yLa_told 16 = .ok (.ireturn, 1) := by decide +kernel
set_option maxHeartbeats 4000000 in
set_option maxRecDepth 100000 in
theorem c_Law_told (l : Launch) (hnt : l.stackTraces = false) (dC : Nat → ClassId) (dI : Nat → Nat → Nat) (sa : Nat → Nat) (hx_ hst hd hfa hp hw hs hk : Nat) (cL : ClassId) (w h mn : Int) (G : Int → Int64) (pic : Int → Int → Bool) (wh : Int) (ho : Nat) (O : Int → Int64) (sz : Nat) (w1 : 1 ≤ w) (w2 : w ≤ 1024) (h1 : 1 ≤ h) (h2 : h ≤ 1024) (hR : Rep G pic) (hO : Off w h pic) (wh1 : -2147483648 ≤ wh) (wh2 : wh ≤ 2147483647) : Met l y_La_told w_La_told ({ frames := 8, cells := 1, slots := 6, locals := 141 }) (va_Pc [.ref hx_, .int (iZ wh), .ref ho] (zPy (dC, dI) vwCl [(hx_, .inr (4, [.ref hp, .ref hst, .ref hd, .ref hfa])), (hp, .inr (2, [.int (iZ w), .int (iZ h), .int (iZ mn), .ref hw, .ref hs, .ref hk])), (hw, .inl (cL, 16384, .inr (.inl (aL G)))), (ho, .inl (cL, 1, .inr (.inl (aL O))))] [(cL, .long)] sz sa)) (va_Qi (fun (r : Int32) (u : (Int → Int64)) => ∃ k : Int, r = iZ k ∧ ((k = 0 ∧ ∃ (r9 : Int32) (u9 : Unit), (∃ z : Int, r9 = iZ z ∧ 0 ≤ wh ∧ wh ≤ 6 ∧ tolS w h pic wh z) ∧ u 0 = r9.toInt64) ∨ ((k = 1 ∧ ¬ (0 ≤ wh ∧ wh ≤ 6))))) (fun u => zB (dC, dI) vwCl [(cL, .long)] (va_A [(hx_, .inr (4, [.ref hp, .ref hst, .ref hd, .ref hfa])), (hp, .inr (2, [.int (iZ w), .int (iZ h), .int (iZ mn), .ref hw, .ref hs, .ref hk])), (hw, .inl (cL, 16384, .inr (.inl (aL G)))), (ho, .inl (cL, 1, .inr (.inl (aL O))))] sz) [(hx_, .inr (4, [.ref hp, .ref hst, .ref hd, .ref hfa])), (hp, .inr (2, [.int (iZ w), .int (iZ h), .int (iZ mn), .ref hw, .ref hs, .ref hk])), (hw, .inl (cL, 16384, .inr (.inl (aL G)))), (ho, .inl (cL, 1, .inr (.inl (aL u))))]) (va_A [(hx_, .inr (4, [.ref hp, .ref hst, .ref hd, .ref hfa])), (hp, .inr (2, [.int (iZ w), .int (iZ h), .int (iZ mn), .ref hw, .ref hs, .ref hk])), (hw, .inl (cL, 16384, .inr (.inl (aL G)))), (ho, .inl (cL, 1, .inr (.inl (aL O))))] sz)) 1 6 (va_A [(hx_, .inr (4, [.ref hp, .ref hst, .ref hd, .ref hfa])), (hp, .inr (2, [.int (iZ w), .int (iZ h), .int (iZ mn), .ref hw, .ref hs, .ref hk])), (hw, .inl (cL, 16384, .inr (.inl (aL G)))), (ho, .inl (cL, 1, .inr (.inl (aL O))))] sz) := by
  refine va_MetW (cc := c_yLa_told) (maxL := 4) (ret := (some .int)) (hh := [((0 : Nat), (9 : Nat), (12 : Nat), (13 : Nat))]) (by decide) rfl ?_
  intro p e s m args below meth c s₁ B hml hv
  obtain ⟨rfl, ⟨hsz, hP, hK, hD0, hXK⟩, hyN⟩ := hv
  have hx := B.exec
  have hb := B.bytes
  have hr := B.returns
  have hts0 := atoms_spec (ws := w_La_told) B.pre
  have hts : ∀ w ∈ gT, w.before _ s = true := fun w h => hts0 w (List.mem_cons_of_mem _ h)
  have hown : s.vm.findClass R_La = some m.cls := findClass_of_methodNamed B.named
  have hlocks := B.notSynchronized
  have htb : c.exceptionTable.toList = tableOf ([((0 : Nat), (9 : Nat), (12 : Nat), (13 : Nat))]) := vx_table (x := y_La_told) B (hts0 _ List.mem_cons_self)
  subst hsz
  have hD := hD0.self (sz := s.heap.size)
  generalize hAe : va_A [(hx_, .inr (4, [.ref hp, .ref hst, .ref hd, .ref hfa])), (hp, .inr (2, [.int (iZ w), .int (iZ h), .int (iZ mn), .ref hw, .ref hs, .ref hk])), (hw, .inl (cL, 16384, .inr (.inl (aL G)))), (ho, .inl (cL, 1, .inr (.inl (aL O))))] s.heap.size = A at hD hXK ⊢
  have hA : ∀ q : Nat, s.heap.size ≤ q → A q := fun q h => by rw [← hAe]; exact Or.inr h
  obtain ⟨H, hH⟩ : ∃ H, s.heap = H := ⟨_, rfl⟩
  have hS : va_S A s.heap H [] := by rw [← hH]; exact va_S.rf
  rw [hH] at hP
  rw [hH]
  have hl := lv_entry ([.ref hx_, .int (iZ wh), .ref ho]) (n := 4) (Nat.le_of_ble_eq_true rfl)
  rw [lg_entry_eq]
  generalize (lg_sl ([.ref hx_, .int (iZ wh), .ref ho]) ++ List.replicate (4 - (lg_sl ([.ref hx_, .int (iZ wh), .ref ho])).length) Slot.unset).toArray = ls at hl ⊢
  have hl : lv_has ls 4 [(0, .ref hx_), (1, .int (iZ wh)), (2, .ref ho)] := hl
  refine lv_aload_n hx hb d_La_told_0 rfl (lv_at hl 2 rfl) ?_
  refine lv_iconst (v := iZ (0)) hx hb d_La_told_1 rfl ?_
  refine lv_aload_n hx hb d_La_told_2 rfl (lv_at hl 0 rfl) ?_
  refine lv_iload_n hx hb d_La_told_3 rfl (lv_at hl 1 rfl) ?_
  refine zx_i (w1 := fun (u_4 : Unit) => [(hx_, .inr (4, [.ref hp, .ref hst, .ref hd, .ref hfa])), (hp, .inr (2, [.int (iZ w), .int (iZ h), .int (iZ mn), .ref hw, .ref hs, .ref hk])), (hw, .inl (cL, 16384, .inr (.inl (aL G))))]) (wr := [(ho, .inl (cL, 1, .inr (.inl (aL O))))]) (vx_runV (As := [.int (iZ wh)]) (rest := [.int (iZ 0), .ref ho]) ⟨hx, hb, hml, hown, hts⟩ (c_DotSheet_told l hnt dC dI sa hx_ hst hd hfa hp hw hs hk cL w h mn G pic wh H.size (by first | omega | assumption) (by first | omega | assumption) (by first | omega | assumption) (by first | omega | assumption) (by first | omega | assumption) (by first | omega | assumption) (by first | omega | assumption) (by first | omega | assumption)) (cwV 1 hts (gV t_581 t_582 t_583 t_1 t_584) rfl rfl rfl (by decide +kernel) ⟨Nat.le_of_ble_eq_true rfl, Nat.le_of_ble_eq_true rfl⟩) ⟨zPx_blind, va_recv hK hP (ci := 4) (q0 := 0) rfl rfl, zPx_pre hP hD hK hXK hS hA [0, 1, 2] [0] rfl rfl rfl rfl⟩ rfl rfl hl.1 rfl (lv_room (Nat.le_of_ble_eq_true rfl)) d_La_told_4 ⟨Nat.le_of_ble_eq_true rfl, Nat.le_of_ble_eq_true rfl⟩) hP hD hS hA [0, 1, 2] [3] rfl rfl rfl (by decide) (fun E_ ce_ q9_ H locs x_4 hP hD hS hce hcv hcl => ?_) (fun r_4 u_4 H locs q_4 hP hD hS => ?_)
  · have hP : va_P (dC, dI) vwCl [(ho, .inl (cL, 1, .inr (.inl (aL O)))), (hx_, .inr (4, [.ref hp, .ref hst, .ref hd, .ref hfa])), (hp, .inr (2, [.int (iZ w), .int (iZ h), .int (iZ mn), .ref hw, .ref hs, .ref hk])), (hw, .inl (cL, 16384, .inr (.inl (aL G))))] H := hP
    have hD : va_D A [(ho, .inl (cL, 1, .inr (.inl (aL O)))), (hx_, .inr (4, [.ref hp, .ref hst, .ref hd, .ref hfa])), (hp, .inr (2, [.int (iZ w), .int (iZ h), .int (iZ mn), .ref hw, .ref hs, .ref hk])), (hw, .inl (cL, 16384, .inr (.inl (aL G))))] := hD
    obtain ⟨rfl, x_4⟩ := x_4
    refine vx_catch (own := R_La) (name := "java/lang/IllegalArgumentException") hown [] ⟨0, 9, 12, 13⟩ [] htb (fun z hz => nomatch hz) (by decide) (by decide) (hts _ t_146) (va_Nw.use rfl (hXK.1 _ xc_A)) hce hcv hcl ?_
    refine lv_astore_n (lv' := [(3, .ref q9_), (0, .ref hx_), (1, .int (iZ wh)), (2, .ref ho)]) hx hb d_La_told_12 rfl hl (by decide) rfl (fun ls hl => ?_)
    refine lv_iconst (v := iZ (1)) hx hb d_La_told_13 rfl ?_
    have hP := hP.sub (ws' := [(hx_, .inr (4, [.ref hp, .ref hst, .ref hd, .ref hfa])), (hp, .inr (2, [.int (iZ w), .int (iZ h), .int (iZ mn), .ref hw, .ref hs, .ref hk])), (hw, .inl (cL, 16384, .inr (.inl (aL G)))), (ho, .inl (cL, 1, .inr (.inl (aL O))))]) [1, 2, 3, 0] rfl
    have hD := hD.sub (ws' := [(hx_, .inr (4, [.ref hp, .ref hst, .ref hd, .ref hfa])), (hp, .inr (2, [.int (iZ w), .int (iZ h), .int (iZ mn), .ref hw, .ref hs, .ref hk])), (hw, .inl (cL, 16384, .inr (.inl (aL G)))), (ho, .inl (cL, 1, .inr (.inl (aL O))))]) [1, 2, 3, 0] (by decide) rfl
    exact W.iret hx hb hr (fun t9_ ht hW => ⟨⟨_, O, rfl, ⟨1, rfl, Or.inr (⟨rfl, x_4⟩)⟩, by rw [ht]; exact hP, va_K.moved hW.alike hK, hD⟩, hS.F ht⟩) hS.2.2 d_La_told_14
  have hP : va_P (dC, dI) vwCl [(ho, .inl (cL, 1, .inr (.inl (aL O)))), (hx_, .inr (4, [.ref hp, .ref hst, .ref hd, .ref hfa])), (hp, .inr (2, [.int (iZ w), .int (iZ h), .int (iZ mn), .ref hw, .ref hs, .ref hk])), (hw, .inl (cL, 16384, .inr (.inl (aL G))))] H := hP
  have hD : va_D A [(ho, .inl (cL, 1, .inr (.inl (aL O)))), (hx_, .inr (4, [.ref hp, .ref hst, .ref hd, .ref hfa])), (hp, .inr (2, [.int (iZ w), .int (iZ h), .int (iZ mn), .ref hw, .ref hs, .ref hk])), (hw, .inl (cL, 16384, .inr (.inl (aL G))))] := hD
  obtain ⟨k_4, rfl, q_4⟩ := q_4
  refine lv_i2l hx hb d_La_told_7 rfl ?_
  refine z_last hx hb hK hP hD hS 0 0 rfl rfl (by omega) (by omega) (by omega) d_La_told_8 (fun H locs hP hD hS => ?_)
  have hP : va_P (dC, dI) vwCl [(ho, .inl (cL, 1, .inr (.inl (aL (upZ O 0 ((iZ k_4).toInt64)))))), (hx_, .inr (4, [.ref hp, .ref hst, .ref hd, .ref hfa])), (hp, .inr (2, [.int (iZ w), .int (iZ h), .int (iZ mn), .ref hw, .ref hs, .ref hk])), (hw, .inl (cL, 16384, .inr (.inl (aL G))))] H := hP
  have hD : va_D A [(ho, .inl (cL, 1, .inr (.inl (aL (upZ O 0 ((iZ k_4).toInt64)))))), (hx_, .inr (4, [.ref hp, .ref hst, .ref hd, .ref hfa])), (hp, .inr (2, [.int (iZ w), .int (iZ h), .int (iZ mn), .ref hw, .ref hs, .ref hk])), (hw, .inl (cL, 16384, .inr (.inl (aL G))))] := hD
  refine lv_goto (tgt := 15) hx hb d_La_told_9 (by decide) ?_
  refine lv_iconst (v := iZ (0)) hx hb d_La_told_15 rfl ?_
  have hP := hP.sub (ws' := [(hx_, .inr (4, [.ref hp, .ref hst, .ref hd, .ref hfa])), (hp, .inr (2, [.int (iZ w), .int (iZ h), .int (iZ mn), .ref hw, .ref hs, .ref hk])), (hw, .inl (cL, 16384, .inr (.inl (aL G)))), (ho, .inl (cL, 1, .inr (.inl (aL (upZ O 0 ((iZ k_4).toInt64))))))]) [1, 2, 3, 0] rfl
  have hD := hD.sub (ws' := [(hx_, .inr (4, [.ref hp, .ref hst, .ref hd, .ref hfa])), (hp, .inr (2, [.int (iZ w), .int (iZ h), .int (iZ mn), .ref hw, .ref hs, .ref hk])), (hw, .inl (cL, 16384, .inr (.inl (aL G)))), (ho, .inl (cL, 1, .inr (.inl (aL (upZ O 0 ((iZ k_4).toInt64))))))]) [1, 2, 3, 0] (by decide) rfl
  exact W.iret hx hb hr (fun t9_ ht hW => ⟨⟨_, (upZ O 0 ((iZ k_4).toInt64)), rfl, ⟨0, rfl, Or.inl ⟨rfl, _, (), ⟨k_4, rfl, q_4⟩, upZ_s O 0 ((iZ k_4).toInt64)⟩⟩, by rw [ht]; exact hP, va_K.moved hW.alike hK, hD⟩, hS.F ht⟩) hS.2.2 d_La_told_16
theorem d_La_count_0 : decode c_yLa_count 0 = .ok (.aload 5, 2) := by decide +kernel
theorem d_La_count_2 : decode c_yLa_count 2 = .ok (.iconst 0, 1) := by decide +kernel
theorem d_La_count_3 : decode c_yLa_count 3 = .ok (.aload_n 0, 1) := by decide +kernel
theorem d_La_count_4 : decode c_yLa_count 4 = .ok (.iload_n 1, 1) := by decide +kernel
theorem d_La_count_5 : decode c_yLa_count 5 = .ok (.iload_n 2, 1) := by decide +kernel
theorem d_La_count_6 : decode c_yLa_count 6 = .ok (.iload_n 3, 1) := by decide +kernel
theorem d_La_count_7 : decode c_yLa_count 7 = .ok (.iload 4, 2) := by decide +kernel
theorem d_La_count_9 : decode c_yLa_count 9 = .ok (.invokevirtual 64, 3) := by decide +kernel
theorem d_La_count_12 : decode c_yLa_count 12 = .ok (.i2l, 1) := by decide +kernel
theorem d_La_count_13 : decode c_yLa_count 13 = .ok (.lastore, 1) := by decide +kernel
theorem d_La_count_14 : decode c_yLa_count 14 = .ok (.goto 7, 3) := by decide +kernel
theorem d_La_count_17 : decode c_yLa_count 17 = .ok (.astore 6, 2) := by decide +kernel
theorem d_La_count_19 : decode c_yLa_count 19 = .ok (.iconst 1, 1) := by decide +kernel
theorem d_La_count_20 : decode c_yLa_count 20 = .ok (.ireturn, 1) := by decide +kernel
theorem d_La_count_21 : decode c_yLa_count 21 = .ok (.iconst 0, 1) := by decide +kernel
theorem d_La_count_22 : decode c_yLa_count 22 = .ok (.ireturn, 1) := by decide +kernel
set_option maxHeartbeats 4000000 in
set_option maxRecDepth 100000 in
theorem c_Law_count (l : Launch) (hnt : l.stackTraces = false) (dC : Nat → ClassId) (dI : Nat → Nat → Nat) (sa : Nat → Nat) (hx_ hst hd hfa hp hw hs hk : Nat) (cL : ClassId) (w h mn : Int) (G : Int → Int64) (pic : Int → Int → Bool) (x y bw bh : Int) (ho : Nat) (O : Int → Int64) (sz : Nat) (w1 : 1 ≤ w) (w2 : w ≤ 1024) (h1 : 1 ≤ h) (h2 : h ≤ 1024) (hR : Rep G pic) (x1 : -2147483648 ≤ x) (y1 : -2147483648 ≤ y) (bw1 : -2147483648 ≤ bw) (bh1 : -2147483648 ≤ bh) (x2 : x ≤ 2147483647) (y2 : y ≤ 2147483647) (bw2 : bw ≤ 2147483647) (bh2 : bh ≤ 2147483647) : Met l y_La_count w_La_count ({ frames := 9, cells := 1, slots := 6, locals := 167 }) (va_Pc [.ref hx_, .int (iZ x), .int (iZ y), .int (iZ bw), .int (iZ bh), .ref ho] (zPy (dC, dI) vwCl [(hx_, .inr (4, [.ref hp, .ref hst, .ref hd, .ref hfa])), (hp, .inr (2, [.int (iZ w), .int (iZ h), .int (iZ mn), .ref hw, .ref hs, .ref hk])), (hw, .inl (cL, 16384, .inr (.inl (aL G)))), (ho, .inl (cL, 1, .inr (.inl (aL O))))] [(cL, .long)] sz sa)) (va_Qi (fun (r : Int32) (u : (Int → Int64)) => ∃ k : Int, r = iZ k ∧ ((k = 0 ∧ ∃ (r9 : Int32) (u9 : Unit), (r9 = iZ (cnt w h (dkB pic x y (x + bw - 1) (y + bh - 1))) ∧ (-4096 ≤ x ∧ x ≤ 4096 ∧ -4096 ≤ y ∧ y ≤ 4096 ∧ 1 ≤ bw ∧ bw ≤ 2048 ∧ 1 ≤ bh ∧ bh ≤ 2048)) ∧ u 0 = r9.toInt64) ∨ ((k = 1 ∧ ¬ (-4096 ≤ x ∧ x ≤ 4096 ∧ -4096 ≤ y ∧ y ≤ 4096 ∧ 1 ≤ bw ∧ bw ≤ 2048 ∧ 1 ≤ bh ∧ bh ≤ 2048))))) (fun u => zB (dC, dI) vwCl [(cL, .long)] (va_A [(hx_, .inr (4, [.ref hp, .ref hst, .ref hd, .ref hfa])), (hp, .inr (2, [.int (iZ w), .int (iZ h), .int (iZ mn), .ref hw, .ref hs, .ref hk])), (hw, .inl (cL, 16384, .inr (.inl (aL G)))), (ho, .inl (cL, 1, .inr (.inl (aL O))))] sz) [(hx_, .inr (4, [.ref hp, .ref hst, .ref hd, .ref hfa])), (hp, .inr (2, [.int (iZ w), .int (iZ h), .int (iZ mn), .ref hw, .ref hs, .ref hk])), (hw, .inl (cL, 16384, .inr (.inl (aL G)))), (ho, .inl (cL, 1, .inr (.inl (aL u))))]) (va_A [(hx_, .inr (4, [.ref hp, .ref hst, .ref hd, .ref hfa])), (hp, .inr (2, [.int (iZ w), .int (iZ h), .int (iZ mn), .ref hw, .ref hs, .ref hk])), (hw, .inl (cL, 16384, .inr (.inl (aL G)))), (ho, .inl (cL, 1, .inr (.inl (aL O))))] sz)) 1 6 (va_A [(hx_, .inr (4, [.ref hp, .ref hst, .ref hd, .ref hfa])), (hp, .inr (2, [.int (iZ w), .int (iZ h), .int (iZ mn), .ref hw, .ref hs, .ref hk])), (hw, .inl (cL, 16384, .inr (.inl (aL G)))), (ho, .inl (cL, 1, .inr (.inl (aL O))))] sz) := by
  refine va_MetW (cc := c_yLa_count) (maxL := 7) (ret := (some .int)) (hh := [((0 : Nat), (14 : Nat), (17 : Nat), (13 : Nat))]) (by decide) rfl ?_
  intro p e s m args below meth c s₁ B hml hv
  obtain ⟨rfl, ⟨hsz, hP, hK, hD0, hXK⟩, hyN⟩ := hv
  have hx := B.exec
  have hb := B.bytes
  have hr := B.returns
  have hts0 := atoms_spec (ws := w_La_count) B.pre
  have hts : ∀ w ∈ gT, w.before _ s = true := fun w h => hts0 w (List.mem_cons_of_mem _ h)
  have hown : s.vm.findClass R_La = some m.cls := findClass_of_methodNamed B.named
  have hlocks := B.notSynchronized
  have htb : c.exceptionTable.toList = tableOf ([((0 : Nat), (14 : Nat), (17 : Nat), (13 : Nat))]) := vx_table (x := y_La_count) B (hts0 _ List.mem_cons_self)
  subst hsz
  have hD := hD0.self (sz := s.heap.size)
  generalize hAe : va_A [(hx_, .inr (4, [.ref hp, .ref hst, .ref hd, .ref hfa])), (hp, .inr (2, [.int (iZ w), .int (iZ h), .int (iZ mn), .ref hw, .ref hs, .ref hk])), (hw, .inl (cL, 16384, .inr (.inl (aL G)))), (ho, .inl (cL, 1, .inr (.inl (aL O))))] s.heap.size = A at hD hXK ⊢
  have hA : ∀ q : Nat, s.heap.size ≤ q → A q := fun q h => by rw [← hAe]; exact Or.inr h
  obtain ⟨H, hH⟩ : ∃ H, s.heap = H := ⟨_, rfl⟩
  have hS : va_S A s.heap H [] := by rw [← hH]; exact va_S.rf
  rw [hH] at hP
  rw [hH]
  have hl := lv_entry ([.ref hx_, .int (iZ x), .int (iZ y), .int (iZ bw), .int (iZ bh), .ref ho]) (n := 7) (Nat.le_of_ble_eq_true rfl)
  rw [lg_entry_eq]
  generalize (lg_sl ([.ref hx_, .int (iZ x), .int (iZ y), .int (iZ bw), .int (iZ bh), .ref ho]) ++ List.replicate (7 - (lg_sl ([.ref hx_, .int (iZ x), .int (iZ y), .int (iZ bw), .int (iZ bh), .ref ho])).length) Slot.unset).toArray = ls at hl ⊢
  have hl : lv_has ls 7 [(0, .ref hx_), (1, .int (iZ x)), (2, .int (iZ y)), (3, .int (iZ bw)), (4, .int (iZ bh)), (5, .ref ho)] := hl
  refine lv_aload hx hb d_La_count_0 (lv_at hl 5 rfl) ?_
  refine lv_iconst (v := iZ (0)) hx hb d_La_count_2 rfl ?_
  refine lv_aload_n hx hb d_La_count_3 rfl (lv_at hl 0 rfl) ?_
  refine lv_iload_n hx hb d_La_count_4 rfl (lv_at hl 1 rfl) ?_
  refine lv_iload_n hx hb d_La_count_5 rfl (lv_at hl 2 rfl) ?_
  refine lv_iload_n hx hb d_La_count_6 rfl (lv_at hl 3 rfl) ?_
  refine lv_iload hx hb d_La_count_7 (lv_at hl 4 rfl) ?_
  refine zx_i (w1 := fun (u_9 : Unit) => [(hx_, .inr (4, [.ref hp, .ref hst, .ref hd, .ref hfa])), (hp, .inr (2, [.int (iZ w), .int (iZ h), .int (iZ mn), .ref hw, .ref hs, .ref hk])), (hw, .inl (cL, 16384, .inr (.inl (aL G))))]) (wr := [(ho, .inl (cL, 1, .inr (.inl (aL O))))]) (vx_runV (As := [.int (iZ x), .int (iZ y), .int (iZ bw), .int (iZ bh)]) (rest := [.int (iZ 0), .ref ho]) ⟨hx, hb, hml, hown, hts⟩ (c_DotSheet_count l hnt dC dI sa hx_ hst hd hfa hp hw hs hk cL w h mn G pic x y bw bh H.size (by first | omega | assumption) (by first | omega | assumption) (by first | omega | assumption) (by first | omega | assumption) (by first | omega | assumption) (by first | omega | assumption) (by first | omega | assumption) (by first | omega | assumption) (by first | omega | assumption) (by first | omega | assumption) (by first | omega | assumption) (by first | omega | assumption) (by first | omega | assumption)) (cwV 4 hts (gV t_636 t_637 t_638 t_1 t_639) rfl rfl rfl (by decide +kernel) ⟨Nat.le_of_ble_eq_true rfl, Nat.le_of_ble_eq_true rfl⟩) ⟨zPx_blind, va_recv hK hP (ci := 4) (q0 := 0) rfl rfl, zPx_pre hP hD hK hXK hS hA [0, 1, 2] [0] rfl rfl rfl rfl⟩ rfl rfl hl.1 rfl (lv_room (Nat.le_of_ble_eq_true rfl)) d_La_count_9 ⟨Nat.le_of_ble_eq_true rfl, Nat.le_of_ble_eq_true rfl⟩) hP hD hS hA [0, 1, 2] [3] rfl rfl rfl (by decide) (fun E_ ce_ q9_ H locs x_9 hP hD hS hce hcv hcl => ?_) (fun r_9 u_9 H locs q_9 hP hD hS => ?_)
  · have hP : va_P (dC, dI) vwCl [(ho, .inl (cL, 1, .inr (.inl (aL O)))), (hx_, .inr (4, [.ref hp, .ref hst, .ref hd, .ref hfa])), (hp, .inr (2, [.int (iZ w), .int (iZ h), .int (iZ mn), .ref hw, .ref hs, .ref hk])), (hw, .inl (cL, 16384, .inr (.inl (aL G))))] H := hP
    have hD : va_D A [(ho, .inl (cL, 1, .inr (.inl (aL O)))), (hx_, .inr (4, [.ref hp, .ref hst, .ref hd, .ref hfa])), (hp, .inr (2, [.int (iZ w), .int (iZ h), .int (iZ mn), .ref hw, .ref hs, .ref hk])), (hw, .inl (cL, 16384, .inr (.inl (aL G))))] := hD
    obtain ⟨rfl, x_9⟩ := x_9
    refine vx_catch (own := R_La) (name := "java/lang/IllegalArgumentException") hown [] ⟨0, 14, 17, 13⟩ [] htb (fun z hz => nomatch hz) (by decide) (by decide) (hts _ t_146) (va_Nw.use rfl (hXK.1 _ xc_A)) hce hcv hcl ?_
    refine lv_astore (lv' := [(6, .ref q9_), (0, .ref hx_), (1, .int (iZ x)), (2, .int (iZ y)), (3, .int (iZ bw)), (4, .int (iZ bh)), (5, .ref ho)]) hx hb d_La_count_17 hl (by decide) rfl (fun ls hl => ?_)
    refine lv_iconst (v := iZ (1)) hx hb d_La_count_19 rfl ?_
    have hP := hP.sub (ws' := [(hx_, .inr (4, [.ref hp, .ref hst, .ref hd, .ref hfa])), (hp, .inr (2, [.int (iZ w), .int (iZ h), .int (iZ mn), .ref hw, .ref hs, .ref hk])), (hw, .inl (cL, 16384, .inr (.inl (aL G)))), (ho, .inl (cL, 1, .inr (.inl (aL O))))]) [1, 2, 3, 0] rfl
    have hD := hD.sub (ws' := [(hx_, .inr (4, [.ref hp, .ref hst, .ref hd, .ref hfa])), (hp, .inr (2, [.int (iZ w), .int (iZ h), .int (iZ mn), .ref hw, .ref hs, .ref hk])), (hw, .inl (cL, 16384, .inr (.inl (aL G)))), (ho, .inl (cL, 1, .inr (.inl (aL O))))]) [1, 2, 3, 0] (by decide) rfl
    exact W.iret hx hb hr (fun t9_ ht hW => ⟨⟨_, O, rfl, ⟨1, rfl, Or.inr (⟨rfl, x_9⟩)⟩, by rw [ht]; exact hP, va_K.moved hW.alike hK, hD⟩, hS.F ht⟩) hS.2.2 d_La_count_20
  have hP : va_P (dC, dI) vwCl [(ho, .inl (cL, 1, .inr (.inl (aL O)))), (hx_, .inr (4, [.ref hp, .ref hst, .ref hd, .ref hfa])), (hp, .inr (2, [.int (iZ w), .int (iZ h), .int (iZ mn), .ref hw, .ref hs, .ref hk])), (hw, .inl (cL, 16384, .inr (.inl (aL G))))] H := hP
  have hD : va_D A [(ho, .inl (cL, 1, .inr (.inl (aL O)))), (hx_, .inr (4, [.ref hp, .ref hst, .ref hd, .ref hfa])), (hp, .inr (2, [.int (iZ w), .int (iZ h), .int (iZ mn), .ref hw, .ref hs, .ref hk])), (hw, .inl (cL, 16384, .inr (.inl (aL G))))] := hD
  obtain ⟨rfl, q_9⟩ := q_9
  refine lv_i2l hx hb d_La_count_12 rfl ?_
  refine z_last hx hb hK hP hD hS 0 0 rfl rfl (by omega) (by omega) (by omega) d_La_count_13 (fun H locs hP hD hS => ?_)
  have hP : va_P (dC, dI) vwCl [(ho, .inl (cL, 1, .inr (.inl (aL (upZ O 0 ((iZ (cnt w h (dkB pic x y (x + bw - 1) (y + bh - 1)))).toInt64)))))), (hx_, .inr (4, [.ref hp, .ref hst, .ref hd, .ref hfa])), (hp, .inr (2, [.int (iZ w), .int (iZ h), .int (iZ mn), .ref hw, .ref hs, .ref hk])), (hw, .inl (cL, 16384, .inr (.inl (aL G))))] H := hP
  have hD : va_D A [(ho, .inl (cL, 1, .inr (.inl (aL (upZ O 0 ((iZ (cnt w h (dkB pic x y (x + bw - 1) (y + bh - 1)))).toInt64)))))), (hx_, .inr (4, [.ref hp, .ref hst, .ref hd, .ref hfa])), (hp, .inr (2, [.int (iZ w), .int (iZ h), .int (iZ mn), .ref hw, .ref hs, .ref hk])), (hw, .inl (cL, 16384, .inr (.inl (aL G))))] := hD
  refine lv_goto (tgt := 21) hx hb d_La_count_14 (by decide) ?_
  refine lv_iconst (v := iZ (0)) hx hb d_La_count_21 rfl ?_
  have hP := hP.sub (ws' := [(hx_, .inr (4, [.ref hp, .ref hst, .ref hd, .ref hfa])), (hp, .inr (2, [.int (iZ w), .int (iZ h), .int (iZ mn), .ref hw, .ref hs, .ref hk])), (hw, .inl (cL, 16384, .inr (.inl (aL G)))), (ho, .inl (cL, 1, .inr (.inl (aL (upZ O 0 ((iZ (cnt w h (dkB pic x y (x + bw - 1) (y + bh - 1)))).toInt64))))))]) [1, 2, 3, 0] rfl
  have hD := hD.sub (ws' := [(hx_, .inr (4, [.ref hp, .ref hst, .ref hd, .ref hfa])), (hp, .inr (2, [.int (iZ w), .int (iZ h), .int (iZ mn), .ref hw, .ref hs, .ref hk])), (hw, .inl (cL, 16384, .inr (.inl (aL G)))), (ho, .inl (cL, 1, .inr (.inl (aL (upZ O 0 ((iZ (cnt w h (dkB pic x y (x + bw - 1) (y + bh - 1)))).toInt64))))))]) [1, 2, 3, 0] (by decide) rfl
  exact W.iret hx hb hr (fun t9_ ht hW => ⟨⟨_, (upZ O 0 ((iZ (cnt w h (dkB pic x y (x + bw - 1) (y + bh - 1)))).toInt64)), rfl, ⟨0, rfl, Or.inl ⟨rfl, _, (), ⟨rfl, q_9⟩, upZ_s O 0 ((iZ (cnt w h (dkB pic x y (x + bw - 1) (y + bh - 1)))).toInt64)⟩⟩, by rw [ht]; exact hP, va_K.moved hW.alike hK, hD⟩, hS.F ht⟩) hS.2.2 d_La_count_22
theorem d_La_dots_0 : decode c_yLa_dots 0 = .ok (.aload 4, 2) := by decide +kernel
theorem d_La_dots_2 : decode c_yLa_dots 2 = .ok (.iconst 0, 1) := by decide +kernel
theorem d_La_dots_3 : decode c_yLa_dots 3 = .ok (.aload_n 0, 1) := by decide +kernel
theorem d_La_dots_4 : decode c_yLa_dots 4 = .ok (.iload_n 1, 1) := by decide +kernel
theorem d_La_dots_5 : decode c_yLa_dots 5 = .ok (.iload_n 2, 1) := by decide +kernel
theorem d_La_dots_6 : decode c_yLa_dots 6 = .ok (.iload_n 3, 1) := by decide +kernel
theorem d_La_dots_7 : decode c_yLa_dots 7 = .ok (.invokevirtual 68, 3) := by decide +kernel
theorem d_La_dots_10 : decode c_yLa_dots 10 = .ok (.lastore, 1) := by decide +kernel
theorem d_La_dots_11 : decode c_yLa_dots 11 = .ok (.goto 7, 3) := by decide +kernel
theorem d_La_dots_14 : decode c_yLa_dots 14 = .ok (.astore 5, 2) := by decide +kernel
theorem d_La_dots_16 : decode c_yLa_dots 16 = .ok (.iconst 1, 1) := by decide +kernel
theorem d_La_dots_17 : decode c_yLa_dots 17 = .ok (.ireturn, 1) := by decide +kernel
theorem d_La_dots_18 : decode c_yLa_dots 18 = .ok (.iconst 0, 1) := by decide +kernel
theorem d_La_dots_19 : decode c_yLa_dots 19 = .ok (.ireturn, 1) := by decide +kernel
set_option maxHeartbeats 4000000 in
set_option maxRecDepth 100000 in
theorem c_Law_dots (l : Launch) (hnt : l.stackTraces = false) (dC : Nat → ClassId) (dI : Nat → Nat → Nat) (sa : Nat → Nat) (hx_ hst hd hfa hp hw hs hk : Nat) (cL : ClassId) (w h mn : Int) (G : Int → Int64) (pic : Int → Int → Bool) (x y many : Int) (ho : Nat) (O : Int → Int64) (sz : Nat) (w1 : 1 ≤ w) (w2 : w ≤ 1024) (h1 : 1 ≤ h) (h2 : h ≤ 1024) (hR : Rep G pic) (hO : Off w h pic) (x1 : -2147483648 ≤ x) (y1 : -2147483648 ≤ y) (many1 : -2147483648 ≤ many) (x2 : x ≤ 2147483647) (y2 : y ≤ 2147483647) (many2 : many ≤ 2147483647) : Met l y_La_dots w_La_dots ({ frames := 8, cells := 1, slots := 6, locals := 146 }) (va_Pc [.ref hx_, .int (iZ x), .int (iZ y), .int (iZ many), .ref ho] (zPy (dC, dI) vwCl [(hx_, .inr (4, [.ref hp, .ref hst, .ref hd, .ref hfa])), (hp, .inr (2, [.int (iZ w), .int (iZ h), .int (iZ mn), .ref hw, .ref hs, .ref hk])), (hw, .inl (cL, 16384, .inr (.inl (aL G)))), (ho, .inl (cL, 1, .inr (.inl (aL O))))] [(cL, .long)] sz sa)) (va_Qi (fun (r : Int32) (u : (Int → Int64)) => ∃ k : Int, r = iZ k ∧ ((k = 0 ∧ ∃ (r9 : Int64) (u9 : Unit), (r9 = dtL (fun k => pic (x + k) y) many.toNat ∧ (-4096 ≤ x ∧ x ≤ 4096 ∧ -4096 ≤ y ∧ y ≤ 4096 ∧ 1 ≤ many ∧ many ≤ 64)) ∧ u 0 = r9) ∨ ((k = 1 ∧ ¬ (-4096 ≤ x ∧ x ≤ 4096 ∧ -4096 ≤ y ∧ y ≤ 4096 ∧ 1 ≤ many ∧ many ≤ 64))))) (fun u => zB (dC, dI) vwCl [(cL, .long)] (va_A [(hx_, .inr (4, [.ref hp, .ref hst, .ref hd, .ref hfa])), (hp, .inr (2, [.int (iZ w), .int (iZ h), .int (iZ mn), .ref hw, .ref hs, .ref hk])), (hw, .inl (cL, 16384, .inr (.inl (aL G)))), (ho, .inl (cL, 1, .inr (.inl (aL O))))] sz) [(hx_, .inr (4, [.ref hp, .ref hst, .ref hd, .ref hfa])), (hp, .inr (2, [.int (iZ w), .int (iZ h), .int (iZ mn), .ref hw, .ref hs, .ref hk])), (hw, .inl (cL, 16384, .inr (.inl (aL G)))), (ho, .inl (cL, 1, .inr (.inl (aL u))))]) (va_A [(hx_, .inr (4, [.ref hp, .ref hst, .ref hd, .ref hfa])), (hp, .inr (2, [.int (iZ w), .int (iZ h), .int (iZ mn), .ref hw, .ref hs, .ref hk])), (hw, .inl (cL, 16384, .inr (.inl (aL G)))), (ho, .inl (cL, 1, .inr (.inl (aL O))))] sz)) 1 6 (va_A [(hx_, .inr (4, [.ref hp, .ref hst, .ref hd, .ref hfa])), (hp, .inr (2, [.int (iZ w), .int (iZ h), .int (iZ mn), .ref hw, .ref hs, .ref hk])), (hw, .inl (cL, 16384, .inr (.inl (aL G)))), (ho, .inl (cL, 1, .inr (.inl (aL O))))] sz) := by
  refine va_MetW (cc := c_yLa_dots) (maxL := 6) (ret := (some .int)) (hh := [((0 : Nat), (11 : Nat), (14 : Nat), (13 : Nat))]) (by decide) rfl ?_
  intro p e s m args below meth c s₁ B hml hv
  obtain ⟨rfl, ⟨hsz, hP, hK, hD0, hXK⟩, hyN⟩ := hv
  have hx := B.exec
  have hb := B.bytes
  have hr := B.returns
  have hts0 := atoms_spec (ws := w_La_dots) B.pre
  have hts : ∀ w ∈ gT, w.before _ s = true := fun w h => hts0 w (List.mem_cons_of_mem _ h)
  have hown : s.vm.findClass R_La = some m.cls := findClass_of_methodNamed B.named
  have hlocks := B.notSynchronized
  have htb : c.exceptionTable.toList = tableOf ([((0 : Nat), (11 : Nat), (14 : Nat), (13 : Nat))]) := vx_table (x := y_La_dots) B (hts0 _ List.mem_cons_self)
  subst hsz
  have hD := hD0.self (sz := s.heap.size)
  generalize hAe : va_A [(hx_, .inr (4, [.ref hp, .ref hst, .ref hd, .ref hfa])), (hp, .inr (2, [.int (iZ w), .int (iZ h), .int (iZ mn), .ref hw, .ref hs, .ref hk])), (hw, .inl (cL, 16384, .inr (.inl (aL G)))), (ho, .inl (cL, 1, .inr (.inl (aL O))))] s.heap.size = A at hD hXK ⊢
  have hA : ∀ q : Nat, s.heap.size ≤ q → A q := fun q h => by rw [← hAe]; exact Or.inr h
  obtain ⟨H, hH⟩ : ∃ H, s.heap = H := ⟨_, rfl⟩
  have hS : va_S A s.heap H [] := by rw [← hH]; exact va_S.rf
  rw [hH] at hP
  rw [hH]
  have hl := lv_entry ([.ref hx_, .int (iZ x), .int (iZ y), .int (iZ many), .ref ho]) (n := 6) (Nat.le_of_ble_eq_true rfl)
  rw [lg_entry_eq]
  generalize (lg_sl ([.ref hx_, .int (iZ x), .int (iZ y), .int (iZ many), .ref ho]) ++ List.replicate (6 - (lg_sl ([.ref hx_, .int (iZ x), .int (iZ y), .int (iZ many), .ref ho])).length) Slot.unset).toArray = ls at hl ⊢
  have hl : lv_has ls 6 [(0, .ref hx_), (1, .int (iZ x)), (2, .int (iZ y)), (3, .int (iZ many)), (4, .ref ho)] := hl
  refine lv_aload hx hb d_La_dots_0 (lv_at hl 4 rfl) ?_
  refine lv_iconst (v := iZ (0)) hx hb d_La_dots_2 rfl ?_
  refine lv_aload_n hx hb d_La_dots_3 rfl (lv_at hl 0 rfl) ?_
  refine lv_iload_n hx hb d_La_dots_4 rfl (lv_at hl 1 rfl) ?_
  refine lv_iload_n hx hb d_La_dots_5 rfl (lv_at hl 2 rfl) ?_
  refine lv_iload_n hx hb d_La_dots_6 rfl (lv_at hl 3 rfl) ?_
  refine zx_l (w1 := fun (u_7 : Unit) => [(hx_, .inr (4, [.ref hp, .ref hst, .ref hd, .ref hfa])), (hp, .inr (2, [.int (iZ w), .int (iZ h), .int (iZ mn), .ref hw, .ref hs, .ref hk])), (hw, .inl (cL, 16384, .inr (.inl (aL G))))]) (wr := [(ho, .inl (cL, 1, .inr (.inl (aL O))))]) (vx_runV (As := [.int (iZ x), .int (iZ y), .int (iZ many)]) (rest := [.int (iZ 0), .ref ho]) ⟨hx, hb, hml, hown, hts⟩ (c_DotSheet_dots l hnt dC dI sa hx_ hst hd hfa hp hw hs hk cL w h mn G pic x y many H.size (by first | omega | assumption) (by first | omega | assumption) (by first | omega | assumption) (by first | omega | assumption) (by first | omega | assumption) (by first | omega | assumption) (by first | omega | assumption) (by first | omega | assumption) (by first | omega | assumption) (by first | omega | assumption) (by first | omega | assumption) (by first | omega | assumption)) (cwV 3 hts (gV t_643 t_644 t_645 t_1 t_646) rfl rfl rfl (by decide +kernel) ⟨Nat.le_of_ble_eq_true rfl, Nat.le_of_ble_eq_true rfl⟩) ⟨zPx_blind, va_recv hK hP (ci := 4) (q0 := 0) rfl rfl, zPx_pre hP hD hK hXK hS hA [0, 1, 2] [0] rfl rfl rfl rfl⟩ rfl rfl hl.1 rfl (lv_room (Nat.le_of_ble_eq_true rfl)) d_La_dots_7 ⟨Nat.le_of_ble_eq_true rfl, Nat.le_of_ble_eq_true rfl⟩) hP hD hS hA [0, 1, 2] [3] rfl rfl rfl (by decide) (fun E_ ce_ q9_ H locs x_7 hP hD hS hce hcv hcl => ?_) (fun r_7 u_7 H locs q_7 hP hD hS => ?_)
  · have hP : va_P (dC, dI) vwCl [(ho, .inl (cL, 1, .inr (.inl (aL O)))), (hx_, .inr (4, [.ref hp, .ref hst, .ref hd, .ref hfa])), (hp, .inr (2, [.int (iZ w), .int (iZ h), .int (iZ mn), .ref hw, .ref hs, .ref hk])), (hw, .inl (cL, 16384, .inr (.inl (aL G))))] H := hP
    have hD : va_D A [(ho, .inl (cL, 1, .inr (.inl (aL O)))), (hx_, .inr (4, [.ref hp, .ref hst, .ref hd, .ref hfa])), (hp, .inr (2, [.int (iZ w), .int (iZ h), .int (iZ mn), .ref hw, .ref hs, .ref hk])), (hw, .inl (cL, 16384, .inr (.inl (aL G))))] := hD
    obtain ⟨rfl, x_7⟩ := x_7
    refine vx_catch (own := R_La) (name := "java/lang/IllegalArgumentException") hown [] ⟨0, 11, 14, 13⟩ [] htb (fun z hz => nomatch hz) (by decide) (by decide) (hts _ t_146) (va_Nw.use rfl (hXK.1 _ xc_A)) hce hcv hcl ?_
    refine lv_astore (lv' := [(5, .ref q9_), (0, .ref hx_), (1, .int (iZ x)), (2, .int (iZ y)), (3, .int (iZ many)), (4, .ref ho)]) hx hb d_La_dots_14 hl (by decide) rfl (fun ls hl => ?_)
    refine lv_iconst (v := iZ (1)) hx hb d_La_dots_16 rfl ?_
    have hP := hP.sub (ws' := [(hx_, .inr (4, [.ref hp, .ref hst, .ref hd, .ref hfa])), (hp, .inr (2, [.int (iZ w), .int (iZ h), .int (iZ mn), .ref hw, .ref hs, .ref hk])), (hw, .inl (cL, 16384, .inr (.inl (aL G)))), (ho, .inl (cL, 1, .inr (.inl (aL O))))]) [1, 2, 3, 0] rfl
    have hD := hD.sub (ws' := [(hx_, .inr (4, [.ref hp, .ref hst, .ref hd, .ref hfa])), (hp, .inr (2, [.int (iZ w), .int (iZ h), .int (iZ mn), .ref hw, .ref hs, .ref hk])), (hw, .inl (cL, 16384, .inr (.inl (aL G)))), (ho, .inl (cL, 1, .inr (.inl (aL O))))]) [1, 2, 3, 0] (by decide) rfl
    exact W.iret hx hb hr (fun t9_ ht hW => ⟨⟨_, O, rfl, ⟨1, rfl, Or.inr (⟨rfl, x_7⟩)⟩, by rw [ht]; exact hP, va_K.moved hW.alike hK, hD⟩, hS.F ht⟩) hS.2.2 d_La_dots_17
  have hP : va_P (dC, dI) vwCl [(ho, .inl (cL, 1, .inr (.inl (aL O)))), (hx_, .inr (4, [.ref hp, .ref hst, .ref hd, .ref hfa])), (hp, .inr (2, [.int (iZ w), .int (iZ h), .int (iZ mn), .ref hw, .ref hs, .ref hk])), (hw, .inl (cL, 16384, .inr (.inl (aL G))))] H := hP
  have hD : va_D A [(ho, .inl (cL, 1, .inr (.inl (aL O)))), (hx_, .inr (4, [.ref hp, .ref hst, .ref hd, .ref hfa])), (hp, .inr (2, [.int (iZ w), .int (iZ h), .int (iZ mn), .ref hw, .ref hs, .ref hk])), (hw, .inl (cL, 16384, .inr (.inl (aL G))))] := hD
  obtain ⟨rfl, q_7⟩ := q_7
  refine z_last hx hb hK hP hD hS 0 0 rfl rfl (by omega) (by omega) (by omega) d_La_dots_10 (fun H locs hP hD hS => ?_)
  have hP : va_P (dC, dI) vwCl [(ho, .inl (cL, 1, .inr (.inl (aL (upZ O 0 (dtL (fun k => pic (x + k) y) many.toNat)))))), (hx_, .inr (4, [.ref hp, .ref hst, .ref hd, .ref hfa])), (hp, .inr (2, [.int (iZ w), .int (iZ h), .int (iZ mn), .ref hw, .ref hs, .ref hk])), (hw, .inl (cL, 16384, .inr (.inl (aL G))))] H := hP
  have hD : va_D A [(ho, .inl (cL, 1, .inr (.inl (aL (upZ O 0 (dtL (fun k => pic (x + k) y) many.toNat)))))), (hx_, .inr (4, [.ref hp, .ref hst, .ref hd, .ref hfa])), (hp, .inr (2, [.int (iZ w), .int (iZ h), .int (iZ mn), .ref hw, .ref hs, .ref hk])), (hw, .inl (cL, 16384, .inr (.inl (aL G))))] := hD
  refine lv_goto (tgt := 18) hx hb d_La_dots_11 (by decide) ?_
  refine lv_iconst (v := iZ (0)) hx hb d_La_dots_18 rfl ?_
  have hP := hP.sub (ws' := [(hx_, .inr (4, [.ref hp, .ref hst, .ref hd, .ref hfa])), (hp, .inr (2, [.int (iZ w), .int (iZ h), .int (iZ mn), .ref hw, .ref hs, .ref hk])), (hw, .inl (cL, 16384, .inr (.inl (aL G)))), (ho, .inl (cL, 1, .inr (.inl (aL (upZ O 0 (dtL (fun k => pic (x + k) y) many.toNat))))))]) [1, 2, 3, 0] rfl
  have hD := hD.sub (ws' := [(hx_, .inr (4, [.ref hp, .ref hst, .ref hd, .ref hfa])), (hp, .inr (2, [.int (iZ w), .int (iZ h), .int (iZ mn), .ref hw, .ref hs, .ref hk])), (hw, .inl (cL, 16384, .inr (.inl (aL G)))), (ho, .inl (cL, 1, .inr (.inl (aL (upZ O 0 (dtL (fun k => pic (x + k) y) many.toNat))))))]) [1, 2, 3, 0] (by decide) rfl
  exact W.iret hx hb hr (fun t9_ ht hW => ⟨⟨_, (upZ O 0 (dtL (fun k => pic (x + k) y) many.toNat)), rfl, ⟨0, rfl, Or.inl ⟨rfl, _, (), ⟨rfl, q_7⟩, upZ_s O 0 (dtL (fun k => pic (x + k) y) many.toNat)⟩⟩, by rw [ht]; exact hP, va_K.moved hW.alike hK, hD⟩, hS.F ht⟩) hS.2.2 d_La_dots_19
theorem d_La_run_0 : decode c_yLa_run 0 = .ok (.aload 5, 2) := by decide +kernel
theorem d_La_run_2 : decode c_yLa_run 2 = .ok (.iconst 0, 1) := by decide +kernel
theorem d_La_run_3 : decode c_yLa_run 3 = .ok (.aload_n 0, 1) := by decide +kernel
theorem d_La_run_4 : decode c_yLa_run 4 = .ok (.iload_n 1, 1) := by decide +kernel
theorem d_La_run_5 : decode c_yLa_run 5 = .ok (.iload_n 2, 1) := by decide +kernel
theorem d_La_run_6 : decode c_yLa_run 6 = .ok (.iload_n 3, 1) := by decide +kernel
theorem d_La_run_7 : decode c_yLa_run 7 = .ok (.iload 4, 2) := by decide +kernel
theorem d_La_run_9 : decode c_yLa_run 9 = .ok (.invokevirtual 72, 3) := by decide +kernel
theorem d_La_run_12 : decode c_yLa_run 12 = .ok (.i2l, 1) := by decide +kernel
theorem d_La_run_13 : decode c_yLa_run 13 = .ok (.lastore, 1) := by decide +kernel
theorem d_La_run_14 : decode c_yLa_run 14 = .ok (.goto 11, 3) := by decide +kernel
theorem d_La_run_17 : decode c_yLa_run 17 = .ok (.astore 6, 2) := by decide +kernel
theorem d_La_run_19 : decode c_yLa_run 19 = .ok (.iconst 1, 1) := by decide +kernel
theorem d_La_run_20 : decode c_yLa_run 20 = .ok (.ireturn, 1) := by decide +kernel
theorem d_La_run_21 : decode c_yLa_run 21 = .ok (.astore 6, 2) := by decide +kernel
theorem d_La_run_23 : decode c_yLa_run 23 = .ok (.iconst 2, 1) := by decide +kernel
theorem d_La_run_24 : decode c_yLa_run 24 = .ok (.ireturn, 1) := by decide +kernel
theorem d_La_run_25 : decode c_yLa_run 25 = .ok (.iconst 0, 1) := by decide +kernel
theorem d_La_run_26 : decode c_yLa_run 26 = .ok (.ireturn, 1) := by decide +kernel
set_option maxHeartbeats 4000000 in
set_option maxRecDepth 100000 in
theorem c_Law_run (l : Launch) (hnt : l.stackTraces = false) (dC : Nat → ClassId) (dI : Nat → Nat → Nat) (sa : Nat → Nat) (hx_ hst hd hfa hp hw hs hk : Nat) (cL : ClassId) (w h mn : Int) (G : Int → Int64) (pic : Int → Int → Bool) (x y i : Int) (dw : Bool) (ho : Nat) (O : Int → Int64) (sz : Nat) (w1 : 1 ≤ w) (w2 : w ≤ 1024) (h1 : 1 ≤ h) (h2 : h ≤ 1024) (hR : Rep G pic) (hO : Off w h pic) (x1 : -2147483648 ≤ x) (y1 : -2147483648 ≤ y) (i1 : -2147483648 ≤ i) (x2 : x ≤ 2147483647) (y2 : y ≤ 2147483647) (i2 : i ≤ 2147483647) : Met l y_La_run w_La_run ({ frames := 8, cells := 2, slots := 12, locals := 144 }) (va_Pc [.ref hx_, .int (iZ x), .int (iZ y), .int (iZ i), .int (bI dw), .ref ho] (zPy (dC, dI) vwCl [(hx_, .inr (4, [.ref hp, .ref hst, .ref hd, .ref hfa])), (hp, .inr (2, [.int (iZ w), .int (iZ h), .int (iZ mn), .ref hw, .ref hs, .ref hk])), (hw, .inl (cL, 16384, .inr (.inl (aL G)))), (ho, .inl (cL, 1, .inr (.inl (aL O))))] [(cL, .long)] sz sa)) (va_Qi (fun (r : Int32) (u : (Int → Int64)) => ∃ k : Int, r = iZ k ∧ ((k = 0 ∧ ∃ (r9 : Int32) (u9 : Unit), (r9 = iZ (if dw then runS (fun k => pic (x + k * 0) (y + k * 1)) (h - y) i else runS (fun k => pic (x + k * 1) (y + k * 0)) (w - x) i) ∧ (-4096 ≤ x ∧ x ≤ 4096 ∧ -4096 ≤ y ∧ y ≤ 4096) ∧ onB w h x y = true) ∧ u 0 = r9.toInt64) ∨ (((k = 1 ∧ ¬ (-4096 ≤ x ∧ x ≤ 4096 ∧ -4096 ≤ y ∧ y ≤ 4096)) ∨ (k = 2 ∧ (-4096 ≤ x ∧ x ≤ 4096 ∧ -4096 ≤ y ∧ y ≤ 4096) ∧ onB w h x y = false))))) (fun u => zB (dC, dI) vwCl [(cL, .long)] (va_A [(hx_, .inr (4, [.ref hp, .ref hst, .ref hd, .ref hfa])), (hp, .inr (2, [.int (iZ w), .int (iZ h), .int (iZ mn), .ref hw, .ref hs, .ref hk])), (hw, .inl (cL, 16384, .inr (.inl (aL G)))), (ho, .inl (cL, 1, .inr (.inl (aL O))))] sz) [(hx_, .inr (4, [.ref hp, .ref hst, .ref hd, .ref hfa])), (hp, .inr (2, [.int (iZ w), .int (iZ h), .int (iZ mn), .ref hw, .ref hs, .ref hk])), (hw, .inl (cL, 16384, .inr (.inl (aL G)))), (ho, .inl (cL, 1, .inr (.inl (aL u))))]) (va_A [(hx_, .inr (4, [.ref hp, .ref hst, .ref hd, .ref hfa])), (hp, .inr (2, [.int (iZ w), .int (iZ h), .int (iZ mn), .ref hw, .ref hs, .ref hk])), (hw, .inl (cL, 16384, .inr (.inl (aL G)))), (ho, .inl (cL, 1, .inr (.inl (aL O))))] sz)) 2 12 (va_A [(hx_, .inr (4, [.ref hp, .ref hst, .ref hd, .ref hfa])), (hp, .inr (2, [.int (iZ w), .int (iZ h), .int (iZ mn), .ref hw, .ref hs, .ref hk])), (hw, .inl (cL, 16384, .inr (.inl (aL G)))), (ho, .inl (cL, 1, .inr (.inl (aL O))))] sz) := by
  refine va_MetW (cc := c_yLa_run) (maxL := 7) (ret := (some .int)) (hh := [((0 : Nat), (14 : Nat), (17 : Nat), (13 : Nat)), ((0 : Nat), (14 : Nat), (21 : Nat), (40 : Nat))]) (by decide) rfl ?_
  intro p e s m args below meth c s₁ B hml hv
  obtain ⟨rfl, ⟨hsz, hP, hK, hD0, hXK⟩, hyN⟩ := hv
  have hx := B.exec
  have hb := B.bytes
  have hr := B.returns
  have hts0 := atoms_spec (ws := w_La_run) B.pre
  have hts : ∀ w ∈ gT, w.before _ s = true := fun w h => hts0 w (List.mem_cons_of_mem _ h)
  have hown : s.vm.findClass R_La = some m.cls := findClass_of_methodNamed B.named
  have hlocks := B.notSynchronized
  have htb : c.exceptionTable.toList = tableOf ([((0 : Nat), (14 : Nat), (17 : Nat), (13 : Nat)), ((0 : Nat), (14 : Nat), (21 : Nat), (40 : Nat))]) := vx_table (x := y_La_run) B (hts0 _ List.mem_cons_self)
  subst hsz
  have hD := hD0.self (sz := s.heap.size)
  generalize hAe : va_A [(hx_, .inr (4, [.ref hp, .ref hst, .ref hd, .ref hfa])), (hp, .inr (2, [.int (iZ w), .int (iZ h), .int (iZ mn), .ref hw, .ref hs, .ref hk])), (hw, .inl (cL, 16384, .inr (.inl (aL G)))), (ho, .inl (cL, 1, .inr (.inl (aL O))))] s.heap.size = A at hD hXK ⊢
  have hA : ∀ q : Nat, s.heap.size ≤ q → A q := fun q h => by rw [← hAe]; exact Or.inr h
  obtain ⟨H, hH⟩ : ∃ H, s.heap = H := ⟨_, rfl⟩
  have hS : va_S A s.heap H [] := by rw [← hH]; exact va_S.rf
  rw [hH] at hP
  rw [hH]
  have hl := lv_entry ([.ref hx_, .int (iZ x), .int (iZ y), .int (iZ i), .int (bI dw), .ref ho]) (n := 7) (Nat.le_of_ble_eq_true rfl)
  rw [lg_entry_eq]
  generalize (lg_sl ([.ref hx_, .int (iZ x), .int (iZ y), .int (iZ i), .int (bI dw), .ref ho]) ++ List.replicate (7 - (lg_sl ([.ref hx_, .int (iZ x), .int (iZ y), .int (iZ i), .int (bI dw), .ref ho])).length) Slot.unset).toArray = ls at hl ⊢
  have hl : lv_has ls 7 [(0, .ref hx_), (1, .int (iZ x)), (2, .int (iZ y)), (3, .int (iZ i)), (4, .int (bI dw)), (5, .ref ho)] := hl
  refine lv_aload hx hb d_La_run_0 (lv_at hl 5 rfl) ?_
  refine lv_iconst (v := iZ (0)) hx hb d_La_run_2 rfl ?_
  refine lv_aload_n hx hb d_La_run_3 rfl (lv_at hl 0 rfl) ?_
  refine lv_iload_n hx hb d_La_run_4 rfl (lv_at hl 1 rfl) ?_
  refine lv_iload_n hx hb d_La_run_5 rfl (lv_at hl 2 rfl) ?_
  refine lv_iload_n hx hb d_La_run_6 rfl (lv_at hl 3 rfl) ?_
  refine lv_iload hx hb d_La_run_7 (lv_at hl 4 rfl) ?_
  refine zx_i (w1 := fun (u_9 : Unit) => [(hx_, .inr (4, [.ref hp, .ref hst, .ref hd, .ref hfa])), (hp, .inr (2, [.int (iZ w), .int (iZ h), .int (iZ mn), .ref hw, .ref hs, .ref hk])), (hw, .inl (cL, 16384, .inr (.inl (aL G))))]) (wr := [(ho, .inl (cL, 1, .inr (.inl (aL O))))]) (vx_runV (As := [.int (iZ x), .int (iZ y), .int (iZ i), .int (bI dw)]) (rest := [.int (iZ 0), .ref ho]) ⟨hx, hb, hml, hown, hts⟩ (c_DotSheet_run l hnt dC dI sa hx_ hst hd hfa hp hw hs hk cL w h mn G pic x y i dw H.size (by first | omega | assumption) (by first | omega | assumption) (by first | omega | assumption) (by first | omega | assumption) (by first | omega | assumption) (by first | omega | assumption) (by first | omega | assumption) (by first | omega | assumption) (by first | omega | assumption) (by first | omega | assumption) (by first | omega | assumption) (by first | omega | assumption)) (cwV 4 hts (gV t_658 t_659 t_660 t_1 t_661) rfl rfl rfl (by decide +kernel) ⟨Nat.le_of_ble_eq_true rfl, Nat.le_of_ble_eq_true rfl⟩) ⟨zPx_blind, va_recv hK hP (ci := 4) (q0 := 0) rfl rfl, zPx_pre hP hD hK hXK hS hA [0, 1, 2] [0] rfl rfl rfl rfl⟩ rfl rfl hl.1 rfl (lv_room (Nat.le_of_ble_eq_true rfl)) d_La_run_9 ⟨Nat.le_of_ble_eq_true rfl, Nat.le_of_ble_eq_true rfl⟩) hP hD hS hA [0, 1, 2] [3] rfl rfl rfl (by decide) (fun E_ ce_ q9_ H locs x_9 hP hD hS hce hcv hcl => ?_) (fun r_9 u_9 H locs q_9 hP hD hS => ?_)
  · have hP : va_P (dC, dI) vwCl [(ho, .inl (cL, 1, .inr (.inl (aL O)))), (hx_, .inr (4, [.ref hp, .ref hst, .ref hd, .ref hfa])), (hp, .inr (2, [.int (iZ w), .int (iZ h), .int (iZ mn), .ref hw, .ref hs, .ref hk])), (hw, .inl (cL, 16384, .inr (.inl (aL G))))] H := hP
    have hD : va_D A [(ho, .inl (cL, 1, .inr (.inl (aL O)))), (hx_, .inr (4, [.ref hp, .ref hst, .ref hd, .ref hfa])), (hp, .inr (2, [.int (iZ w), .int (iZ h), .int (iZ mn), .ref hw, .ref hs, .ref hk])), (hw, .inl (cL, 16384, .inr (.inl (aL G))))] := hD
    rcases x_9 with ⟨rfl, x_9⟩ | ⟨rfl, x_9⟩
    · refine vx_catch (own := R_La) (name := "java/lang/IllegalArgumentException") hown [] ⟨0, 14, 17, 13⟩ [⟨0, 14, 21, 40⟩] htb (fun z hz => nomatch hz) (by decide) (by decide) (hts _ t_146) (va_Nw.use rfl (hXK.1 _ xc_A)) hce hcv hcl ?_
      refine lv_astore (lv' := [(6, .ref q9_), (0, .ref hx_), (1, .int (iZ x)), (2, .int (iZ y)), (3, .int (iZ i)), (4, .int (bI dw)), (5, .ref ho)]) hx hb d_La_run_17 hl (by decide) rfl (fun ls hl => ?_)
      refine lv_iconst (v := iZ (1)) hx hb d_La_run_19 rfl ?_
      have hP := hP.sub (ws' := [(hx_, .inr (4, [.ref hp, .ref hst, .ref hd, .ref hfa])), (hp, .inr (2, [.int (iZ w), .int (iZ h), .int (iZ mn), .ref hw, .ref hs, .ref hk])), (hw, .inl (cL, 16384, .inr (.inl (aL G)))), (ho, .inl (cL, 1, .inr (.inl (aL O))))]) [1, 2, 3, 0] rfl
      have hD := hD.sub (ws' := [(hx_, .inr (4, [.ref hp, .ref hst, .ref hd, .ref hfa])), (hp, .inr (2, [.int (iZ w), .int (iZ h), .int (iZ mn), .ref hw, .ref hs, .ref hk])), (hw, .inl (cL, 16384, .inr (.inl (aL G)))), (ho, .inl (cL, 1, .inr (.inl (aL O))))]) [1, 2, 3, 0] (by decide) rfl
      exact W.iret hx hb hr (fun t9_ ht hW => ⟨⟨_, O, rfl, ⟨1, rfl, Or.inr (Or.inl ⟨rfl, x_9⟩)⟩, by rw [ht]; exact hP, va_K.moved hW.alike hK, hD⟩, hS.F ht⟩) hS.2.2 d_La_run_20
    · refine vx_catch (own := R_La) (name := "java/lang/IndexOutOfBoundsException") hown [⟨0, 14, 17, 13⟩] ⟨0, 14, 21, 40⟩ [] htb (fun z hz => by cases List.mem_singleton.mp hz; exact Or.inr ⟨by decide, _, hts _ t_146, hyN.1⟩) (by decide) (by decide) (hts _ t_435) (va_Nw.use rfl (hXK.1 _ xc_B)) hce hcv hcl ?_
      refine lv_astore (lv' := [(6, .ref q9_), (0, .ref hx_), (1, .int (iZ x)), (2, .int (iZ y)), (3, .int (iZ i)), (4, .int (bI dw)), (5, .ref ho)]) hx hb d_La_run_21 hl (by decide) rfl (fun ls hl => ?_)
      refine lv_iconst (v := iZ (2)) hx hb d_La_run_23 rfl ?_
      have hP := hP.sub (ws' := [(hx_, .inr (4, [.ref hp, .ref hst, .ref hd, .ref hfa])), (hp, .inr (2, [.int (iZ w), .int (iZ h), .int (iZ mn), .ref hw, .ref hs, .ref hk])), (hw, .inl (cL, 16384, .inr (.inl (aL G)))), (ho, .inl (cL, 1, .inr (.inl (aL O))))]) [1, 2, 3, 0] rfl
      have hD := hD.sub (ws' := [(hx_, .inr (4, [.ref hp, .ref hst, .ref hd, .ref hfa])), (hp, .inr (2, [.int (iZ w), .int (iZ h), .int (iZ mn), .ref hw, .ref hs, .ref hk])), (hw, .inl (cL, 16384, .inr (.inl (aL G)))), (ho, .inl (cL, 1, .inr (.inl (aL O))))]) [1, 2, 3, 0] (by decide) rfl
      exact W.iret hx hb hr (fun t9_ ht hW => ⟨⟨_, O, rfl, ⟨2, rfl, Or.inr (Or.inr ⟨rfl, x_9⟩)⟩, by rw [ht]; exact hP, va_K.moved hW.alike hK, hD⟩, hS.F ht⟩) hS.2.2 d_La_run_24
  have hP : va_P (dC, dI) vwCl [(ho, .inl (cL, 1, .inr (.inl (aL O)))), (hx_, .inr (4, [.ref hp, .ref hst, .ref hd, .ref hfa])), (hp, .inr (2, [.int (iZ w), .int (iZ h), .int (iZ mn), .ref hw, .ref hs, .ref hk])), (hw, .inl (cL, 16384, .inr (.inl (aL G))))] H := hP
  have hD : va_D A [(ho, .inl (cL, 1, .inr (.inl (aL O)))), (hx_, .inr (4, [.ref hp, .ref hst, .ref hd, .ref hfa])), (hp, .inr (2, [.int (iZ w), .int (iZ h), .int (iZ mn), .ref hw, .ref hs, .ref hk])), (hw, .inl (cL, 16384, .inr (.inl (aL G))))] := hD
  obtain ⟨rfl, q_9⟩ := q_9
  refine lv_i2l hx hb d_La_run_12 rfl ?_
  refine z_last hx hb hK hP hD hS 0 0 rfl rfl (by omega) (by omega) (by omega) d_La_run_13 (fun H locs hP hD hS => ?_)
  have hP : va_P (dC, dI) vwCl [(ho, .inl (cL, 1, .inr (.inl (aL (upZ O 0 ((iZ (if dw then runS (fun k => pic (x + k * 0) (y + k * 1)) (h - y) i else runS (fun k => pic (x + k * 1) (y + k * 0)) (w - x) i)).toInt64)))))), (hx_, .inr (4, [.ref hp, .ref hst, .ref hd, .ref hfa])), (hp, .inr (2, [.int (iZ w), .int (iZ h), .int (iZ mn), .ref hw, .ref hs, .ref hk])), (hw, .inl (cL, 16384, .inr (.inl (aL G))))] H := hP
  have hD : va_D A [(ho, .inl (cL, 1, .inr (.inl (aL (upZ O 0 ((iZ (if dw then runS (fun k => pic (x + k * 0) (y + k * 1)) (h - y) i else runS (fun k => pic (x + k * 1) (y + k * 0)) (w - x) i)).toInt64)))))), (hx_, .inr (4, [.ref hp, .ref hst, .ref hd, .ref hfa])), (hp, .inr (2, [.int (iZ w), .int (iZ h), .int (iZ mn), .ref hw, .ref hs, .ref hk])), (hw, .inl (cL, 16384, .inr (.inl (aL G))))] := hD
  refine lv_goto (tgt := 25) hx hb d_La_run_14 (by decide) ?_
  refine lv_iconst (v := iZ (0)) hx hb d_La_run_25 rfl ?_
  have hP := hP.sub (ws' := [(hx_, .inr (4, [.ref hp, .ref hst, .ref hd, .ref hfa])), (hp, .inr (2, [.int (iZ w), .int (iZ h), .int (iZ mn), .ref hw, .ref hs, .ref hk])), (hw, .inl (cL, 16384, .inr (.inl (aL G)))), (ho, .inl (cL, 1, .inr (.inl (aL (upZ O 0 ((iZ (if dw then runS (fun k => pic (x + k * 0) (y + k * 1)) (h - y) i else runS (fun k => pic (x + k * 1) (y + k * 0)) (w - x) i)).toInt64))))))]) [1, 2, 3, 0] rfl
  have hD := hD.sub (ws' := [(hx_, .inr (4, [.ref hp, .ref hst, .ref hd, .ref hfa])), (hp, .inr (2, [.int (iZ w), .int (iZ h), .int (iZ mn), .ref hw, .ref hs, .ref hk])), (hw, .inl (cL, 16384, .inr (.inl (aL G)))), (ho, .inl (cL, 1, .inr (.inl (aL (upZ O 0 ((iZ (if dw then runS (fun k => pic (x + k * 0) (y + k * 1)) (h - y) i else runS (fun k => pic (x + k * 1) (y + k * 0)) (w - x) i)).toInt64))))))]) [1, 2, 3, 0] (by decide) rfl
  exact W.iret hx hb hr (fun t9_ ht hW => ⟨⟨_, (upZ O 0 ((iZ (if dw then runS (fun k => pic (x + k * 0) (y + k * 1)) (h - y) i else runS (fun k => pic (x + k * 1) (y + k * 0)) (w - x) i)).toInt64)), rfl, ⟨0, rfl, Or.inl ⟨rfl, _, (), ⟨rfl, q_9⟩, upZ_s O 0 ((iZ (if dw then runS (fun k => pic (x + k * 0) (y + k * 1)) (h - y) i else runS (fun k => pic (x + k * 1) (y + k * 0)) (w - x) i)).toInt64)⟩⟩, by rw [ht]; exact hP, va_K.moved hW.alike hK, hD⟩, hS.F ht⟩) hS.2.2 d_La_run_26
