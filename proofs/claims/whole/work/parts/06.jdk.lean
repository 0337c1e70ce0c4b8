/-! signs of xor -/
theorem lZ_sign {x : Int} (h1 : -9223372036854775808 ≤ x) (h2 : x ≤ 9223372036854775807) : bitZ (lZ x) 0 = decide (x < 0) := by
  have h := bz_neg (lZ x)
  have h3 := lZ_lt h1 h2 (show -9223372036854775808 ≤ (0 : Int) by decide) (by decide)
  by_cases q : x < 0
  · rw [decide_eq_true q]; exact h.mp (h3.mpr q)
  · rw [decide_eq_false q]
    cases hb : bitZ (lZ x) 0
    · rfl
    · exact absurd (h3.mp (h.mpr hb)) q
theorem lZ_xneg {x y : Int} (x1 : -9223372036854775808 ≤ x) (x2 : x ≤ 9223372036854775807) (y1 : -9223372036854775808 ≤ y) (y2 : y ≤ 9223372036854775807) : (lZ x ^^^ lZ y) < lZ 0 ↔ (x < 0 ↔ ¬ y < 0) := by
  rw [show lZ 0 = 0 from rfl, bz_neg, bz_xor, lZ_sign x1 x2, lZ_sign y1 y2]
  by_cases hx : x < 0 <;> by_cases hy : y < 0 <;> simp [hx, hy]
theorem iZ_xnn {x y : Int} (x1 : 0 ≤ x) (x2 : x ≤ 2147483647) (y1 : 0 ≤ y) (y2 : y ≤ 2147483647) : 0 ≤ iZ x ^^^ iZ y := by
  rw [iZ_nI x1, iZ_nI y1]
  have h : nI x.toNat ^^^ nI y.toNat = nI (x.toNat ^^^ y.toNat) := by
    apply Int32.toBitVec_inj.mp
    apply BitVec.eq_of_toNat_eq
    rw [Int32.toBitVec_xor, BitVec.toNat_xor, pk_tn (by omega), pk_tn (by omega), pk_tn (Nat.lt_of_lt_of_le (Nat.xor_lt_two_pow (n := 31) (by omega) (by omega)) (by decide))]
  rw [h]
  exact nI_pos' (Nat.xor_lt_two_pow (by omega) (by omega))
/-- the quotient that floorDiv gives -/
def fdS (x y z : Int) : Prop := (0 < y → z * y ≤ x ∧ x < z * y + y) ∧ (y < 0 → x ≤ z * y ∧ z * y + y < x)
theorem fd_pos {x y : Int} (h : y ≠ 0) (hs : ¬ (x < 0 ↔ ¬ y < 0) ∨ x.tdiv y * y = x) : fdS x y (x.tdiv y) := by
  have e := Int.mul_tdiv_add_tmod x y
  have e2 : x.tdiv y * y = y * x.tdiv y := Int.mul_comm _ _
  have b1 := Int.tmod_lt_of_pos x (b := y)
  have b2 := Int.lt_tmod_of_pos x (b := y)
  have b3 : y < 0 → -(-y) < x.tmod y ∧ x.tmod y < -y := fun q => by
    have c1 := Int.lt_tmod_of_pos x (b := -y) (by omega)
    have c2 := Int.tmod_lt_of_pos x (b := -y) (by omega)
    rw [Int.tmod_neg] at c1 c2
    exact ⟨c1, c2⟩
  have s1 : 0 ≤ x → 0 ≤ x.tmod y := fun q => Int.tmod_nonneg y q
  have s2 : x ≤ 0 → x.tmod y ≤ 0 := fun q => by
    have := Int.tmod_nonneg (a := -x) y (by omega)
    rw [Int.neg_tmod] at this; omega
  constructor
  · intro q; have b1 := b1 q; have b2 := b2 q
    rcases hs with hs | hs
    · have : 0 ≤ x := by omega
      have := s1 this; omega
    · omega
  · intro q; have b3 := b3 q
    rcases hs with hs | hs
    · have : x ≤ 0 := by omega
      have := s2 this; omega
    · omega
theorem fd_neg {x y : Int} (h : y ≠ 0) (hs : x < 0 ↔ ¬ y < 0) (hn : ¬ x.tdiv y * y = x) : fdS x y (x.tdiv y - 1) := by
  have e := Int.mul_tdiv_add_tmod x y
  have e2 : x.tdiv y * y = y * x.tdiv y := Int.mul_comm _ _
  have e3 : (x.tdiv y - 1) * y = x.tdiv y * y - y := by rw [Int.sub_mul, Int.one_mul]
  have b1 := Int.tmod_lt_of_pos x (b := y)
  have b2 := Int.lt_tmod_of_pos x (b := y)
  have b3 : y < 0 → -(-y) < x.tmod y ∧ x.tmod y < -y := fun q => by
    have c1 := Int.lt_tmod_of_pos x (b := -y) (by omega)
    have c2 := Int.tmod_lt_of_pos x (b := -y) (by omega)
    rw [Int.tmod_neg] at c1 c2
    exact ⟨c1, c2⟩
  have s1 : 0 ≤ x → 0 ≤ x.tmod y := fun q => Int.tmod_nonneg y q
  have s2 : x ≤ 0 → x.tmod y ≤ 0 := fun q => by
    have := Int.tmod_nonneg (a := -x) y (by omega)
    rw [Int.neg_tmod] at this; omega
  constructor
  · intro q; have b1 := b1 q; have b2 := b2 q
    have := s2 (by omega); omega
  · intro q; have b3 := b3 q
    have := s1 (by omega); omega
theorem tdiv_ab (a b : Int) : -(a.natAbs : Int) ≤ a.tdiv b ∧ a.tdiv b ≤ a.natAbs := by
  have h := Int.natAbs_tdiv a b
  have h2 : a.natAbs / b.natAbs ≤ a.natAbs := Nat.div_le_self _ _
  rw [show a.natAbs / b.natAbs = (a.tdiv b).natAbs from h.symm] at h2
  omega
theorem tdiv_mb (a b : Int) : -(a.natAbs : Int) ≤ a.tdiv b * b ∧ a.tdiv b * b ≤ a.natAbs := by
  have h : (a.tdiv b * b).natAbs ≤ a.natAbs := by
    rw [Int.natAbs_mul, Int.natAbs_tdiv]
    exact Nat.div_mul_le_self _ _
  omega
theorem d_JM_max_0_0 : decode c_yJM_max_0 0 = .ok (.iload_n 0, 1) := by decide +kernel
theorem d_JM_max_0_1 : decode c_yJM_max_0 1 = .ok (.iload_n 1, 1) := by decide +kernel
theorem d_JM_max_0_2 : decode c_yJM_max_0 2 = .ok (.if_icmp .lt 7, 3) := by decide +kernel
theorem d_JM_max_0_5 : decode c_yJM_max_0 5 = .ok (.iload_n 0, 1) := by decide +kernel
theorem d_JM_max_0_6 : decode c_yJM_max_0 6 = .ok (.goto 4, 3) := by decide +kernel
theorem d_JM_max_0_9 : decode c_yJM_max_0 9 = .ok (.iload_n 1, 1) := by decide +kernel
theorem d_JM_max_0_10 : decode c_yJM_max_0 10 = .ok (.ireturn, 1) := by decide +kernel
set_option maxHeartbeats 4000000 in
set_option maxRecDepth 100000 in
theorem c_Math_maxi (l : Launch) (dC : Nat → ClassId) (dI : Nat → Nat → Nat) (a b : Int) (a1 : -2147483648 ≤ a) (b1 : -2147483648 ≤ b) (a2 : a ≤ 2147483647) (b2 : b ≤ 2147483647) : Met l y_JM_max_0 w_JM_max_0 ({ frames := 0, cells := 0, slots := 0, locals := 0 }) (va_Pc [.int (iZ a), .int (iZ b)] (zPr (dC, dI) vwCl [] [])) (vp_Si (fun r => r = iZ (max a b))) 0 0 (fun _ => False) := by
  refine va_MetF (cc := c_yJM_max_0) (maxL := 2) (ret := (some .int)) (by decide +kernel) rfl ?_
  intro p e s m args below meth c s₁ B hml hv
  obtain ⟨rfl, hP, hK⟩ := hv
  have hx := B.exec
  have hb := B.bytes
  have hr := B.returns
  have hts0 := atoms_spec (ws := w_JM_max_0) B.pre
  have hts : ∀ w ∈ gT, w.before _ s = true := fun w h => hts0 w (List.mem_cons_of_mem _ h)
  have hown : s.vm.findClass R_JM = some m.cls := findClass_of_methodNamed B.named
  have hlocks := B.notSynchronized
  have hl := lv_entry ([.int (iZ a), .int (iZ b)]) (n := 2) (Nat.le_of_ble_eq_true rfl)
  rw [lg_entry_eq]
  generalize (lg_sl ([.int (iZ a), .int (iZ b)]) ++ List.replicate (2 - (lg_sl ([.int (iZ a), .int (iZ b)])).length) Slot.unset).toArray = ls at hl ⊢
  have hl : lv_has ls 2 [(0, .int (iZ a)), (1, .int (iZ b))] := hl
  refine lv_iload_n hx hb d_JM_max_0_0 rfl (lv_at hl 0 rfl) ?_
  refine lv_iload_n hx hb d_JM_max_0_1 rfl (lv_at hl 1 rfl) ?_
  refine zi_lt (tgt := 9) hx hb d_JM_max_0_2 (by decide) (by omega) (by omega) (by omega) (by omega) (fun c_2 => ?_) (fun c_2 => ?_)
  · refine lv_iload_n hx hb d_JM_max_0_9 rfl (lv_at hl 1 rfl) ?_
    exact W.iret hx hb hr (fun t ht hW => ⟨_, rfl, congrArg iZ (by omega), ht⟩) (fun q h => nomatch h) d_JM_max_0_10
  · refine lv_iload_n hx hb d_JM_max_0_5 rfl (lv_at hl 0 rfl) ?_
    refine lv_goto (tgt := 10) hx hb d_JM_max_0_6 (by decide) ?_
    exact W.iret hx hb hr (fun t ht hW => ⟨_, rfl, congrArg iZ (by omega), ht⟩) (fun q h => nomatch h) d_JM_max_0_10
theorem d_JM_max_1_0 : decode c_yJM_max_1 0 = .ok (.lload_n 0, 1) := by decide +kernel
theorem d_JM_max_1_1 : decode c_yJM_max_1 1 = .ok (.lload_n 2, 1) := by decide +kernel
theorem d_JM_max_1_2 : decode c_yJM_max_1 2 = .ok (.lcmp, 1) := by decide +kernel
theorem d_JM_max_1_3 : decode c_yJM_max_1 3 = .ok (.ifCond .lt 7, 3) := by decide +kernel
theorem d_JM_max_1_6 : decode c_yJM_max_1 6 = .ok (.lload_n 0, 1) := by decide +kernel
theorem d_JM_max_1_7 : decode c_yJM_max_1 7 = .ok (.goto 4, 3) := by decide +kernel
theorem d_JM_max_1_10 : decode c_yJM_max_1 10 = .ok (.lload_n 2, 1) := by decide +kernel
theorem d_JM_max_1_11 : decode c_yJM_max_1 11 = .ok (.lreturn, 1) := by decide +kernel
set_option maxHeartbeats 4000000 in
set_option maxRecDepth 100000 in
theorem c_Math_maxl (l : Launch) (dC : Nat → ClassId) (dI : Nat → Nat → Nat) (a b : Int) (a1 : -9223372036854775808 ≤ a) (b1 : -9223372036854775808 ≤ b) (a2 : a ≤ 9223372036854775807) (b2 : b ≤ 9223372036854775807) : Met l y_JM_max_1 w_JM_max_1 ({ frames := 0, cells := 0, slots := 0, locals := 0 }) (va_Pc [.long (lZ a), .long (lZ b)] (zPr (dC, dI) vwCl [] [])) (vp_Sl (fun r => r = lZ (max a b))) 0 0 (fun _ => False) := by
  refine va_MetF (cc := c_yJM_max_1) (maxL := 4) (ret := (some .long)) (by decide +kernel) rfl ?_
  intro p e s m args below meth c s₁ B hml hv
  obtain ⟨rfl, hP, hK⟩ := hv
  have hx := B.exec
  have hb := B.bytes
  have hr := B.returns
  have hts0 := atoms_spec (ws := w_JM_max_1) B.pre
  have hts : ∀ w ∈ gT, w.before _ s = true := fun w h => hts0 w (List.mem_cons_of_mem _ h)
  have hown : s.vm.findClass R_JM = some m.cls := findClass_of_methodNamed B.named
  have hlocks := B.notSynchronized
  have hl := lv_entry ([.long (lZ a), .long (lZ b)]) (n := 4) (Nat.le_of_ble_eq_true rfl)
  rw [lg_entry_eq]
  generalize (lg_sl ([.long (lZ a), .long (lZ b)]) ++ List.replicate (4 - (lg_sl ([.long (lZ a), .long (lZ b)])).length) Slot.unset).toArray = ls at hl ⊢
  have hl : lv_has ls 4 [(0, .long (lZ a)), (2, .long (lZ b))] := hl
  refine lv_lload_n hx hb d_JM_max_1_0 rfl (lv_at hl 0 rfl) ?_
  refine lv_lload_n hx hb d_JM_max_1_1 rfl (lv_at hl 1 rfl) ?_
  refine zl_lt (tgt := 10) hx hb d_JM_max_1_2 d_JM_max_1_3 (by decide) (by omega) (by omega) (by omega) (by omega) (fun c_2 => ?_) (fun c_2 => ?_)
  · refine lv_lload_n hx hb d_JM_max_1_10 rfl (lv_at hl 1 rfl) ?_
    exact W.lret hx hb hr (fun t ht hW => ⟨_, rfl, congrArg lZ (by omega), ht⟩) (fun q h => nomatch h) d_JM_max_1_11
  · refine lv_lload_n hx hb d_JM_max_1_6 rfl (lv_at hl 0 rfl) ?_
    refine lv_goto (tgt := 11) hx hb d_JM_max_1_7 (by decide) ?_
    exact W.lret hx hb hr (fun t ht hW => ⟨_, rfl, congrArg lZ (by omega), ht⟩) (fun q h => nomatch h) d_JM_max_1_11
theorem d_JM_min_0_0 : decode c_yJM_min_0 0 = .ok (.iload_n 0, 1) := by decide +kernel
theorem d_JM_min_0_1 : decode c_yJM_min_0 1 = .ok (.iload_n 1, 1) := by decide +kernel
theorem d_JM_min_0_2 : decode c_yJM_min_0 2 = .ok (.if_icmp .gt 7, 3) := by decide +kernel
theorem d_JM_min_0_5 : decode c_yJM_min_0 5 = .ok (.iload_n 0, 1) := by decide +kernel
theorem d_JM_min_0_6 : decode c_yJM_min_0 6 = .ok (.goto 4, 3) := by decide +kernel
theorem d_JM_min_0_9 : decode c_yJM_min_0 9 = .ok (.iload_n 1, 1) := by decide +kernel
theorem d_JM_min_0_10 : decode c_yJM_min_0 10 = .ok (.ireturn, 1) := by decide +kernel
set_option maxHeartbeats 4000000 in
set_option maxRecDepth 100000 in
theorem c_Math_mini (l : Launch) (dC : Nat → ClassId) (dI : Nat → Nat → Nat) (a b : Int) (a1 : -2147483648 ≤ a) (b1 : -2147483648 ≤ b) (a2 : a ≤ 2147483647) (b2 : b ≤ 2147483647) : Met l y_JM_min_0 w_JM_min_0 ({ frames := 0, cells := 0, slots := 0, locals := 0 }) (va_Pc [.int (iZ a), .int (iZ b)] (zPr (dC, dI) vwCl [] [])) (vp_Si (fun r => r = iZ (min a b))) 0 0 (fun _ => False) := by
  refine va_MetF (cc := c_yJM_min_0) (maxL := 2) (ret := (some .int)) (by decide +kernel) rfl ?_
  intro p e s m args below meth c s₁ B hml hv
  obtain ⟨rfl, hP, hK⟩ := hv
  have hx := B.exec
  have hb := B.bytes
  have hr := B.returns
  have hts0 := atoms_spec (ws := w_JM_min_0) B.pre
  have hts : ∀ w ∈ gT, w.before _ s = true := fun w h => hts0 w (List.mem_cons_of_mem _ h)
  have hown : s.vm.findClass R_JM = some m.cls := findClass_of_methodNamed B.named
  have hlocks := B.notSynchronized
  have hl := lv_entry ([.int (iZ a), .int (iZ b)]) (n := 2) (Nat.le_of_ble_eq_true rfl)
  rw [lg_entry_eq]
  generalize (lg_sl ([.int (iZ a), .int (iZ b)]) ++ List.replicate (2 - (lg_sl ([.int (iZ a), .int (iZ b)])).length) Slot.unset).toArray = ls at hl ⊢
  have hl : lv_has ls 2 [(0, .int (iZ a)), (1, .int (iZ b))] := hl
  refine lv_iload_n hx hb d_JM_min_0_0 rfl (lv_at hl 0 rfl) ?_
  refine lv_iload_n hx hb d_JM_min_0_1 rfl (lv_at hl 1 rfl) ?_
  refine zi_gt (tgt := 9) hx hb d_JM_min_0_2 (by decide) (by omega) (by omega) (by omega) (by omega) (fun c_2 => ?_) (fun c_2 => ?_)
  · refine lv_iload_n hx hb d_JM_min_0_9 rfl (lv_at hl 1 rfl) ?_
    exact W.iret hx hb hr (fun t ht hW => ⟨_, rfl, congrArg iZ (by omega), ht⟩) (fun q h => nomatch h) d_JM_min_0_10
  · refine lv_iload_n hx hb d_JM_min_0_5 rfl (lv_at hl 0 rfl) ?_
    refine lv_goto (tgt := 10) hx hb d_JM_min_0_6 (by decide) ?_
    exact W.iret hx hb hr (fun t ht hW => ⟨_, rfl, congrArg iZ (by omega), ht⟩) (fun q h => nomatch h) d_JM_min_0_10
theorem d_JM_min_1_0 : decode c_yJM_min_1 0 = .ok (.lload_n 0, 1) := by decide +kernel
theorem d_JM_min_1_1 : decode c_yJM_min_1 1 = .ok (.lload_n 2, 1) := by decide +kernel
theorem d_JM_min_1_2 : decode c_yJM_min_1 2 = .ok (.lcmp, 1) := by decide +kernel
theorem d_JM_min_1_3 : decode c_yJM_min_1 3 = .ok (.ifCond .gt 7, 3) := by decide +kernel
theorem d_JM_min_1_6 : decode c_yJM_min_1 6 = .ok (.lload_n 0, 1) := by decide +kernel
theorem d_JM_min_1_7 : decode c_yJM_min_1 7 = .ok (.goto 4, 3) := by decide +kernel
theorem d_JM_min_1_10 : decode c_yJM_min_1 10 = .ok (.lload_n 2, 1) := by decide +kernel
theorem d_JM_min_1_11 : decode c_yJM_min_1 11 = .ok (.lreturn, 1) := by decide +kernel
set_option maxHeartbeats 4000000 in
set_option maxRecDepth 100000 in
theorem c_Math_minl (l : Launch) (dC : Nat → ClassId) (dI : Nat → Nat → Nat) (a b : Int) (a1 : -9223372036854775808 ≤ a) (b1 : -9223372036854775808 ≤ b) (a2 : a ≤ 9223372036854775807) (b2 : b ≤ 9223372036854775807) : Met l y_JM_min_1 w_JM_min_1 ({ frames := 0, cells := 0, slots := 0, locals := 0 }) (va_Pc [.long (lZ a), .long (lZ b)] (zPr (dC, dI) vwCl [] [])) (vp_Sl (fun r => r = lZ (min a b))) 0 0 (fun _ => False) := by
  refine va_MetF (cc := c_yJM_min_1) (maxL := 4) (ret := (some .long)) (by decide +kernel) rfl ?_
  intro p e s m args below meth c s₁ B hml hv
  obtain ⟨rfl, hP, hK⟩ := hv
  have hx := B.exec
  have hb := B.bytes
  have hr := B.returns
  have hts0 := atoms_spec (ws := w_JM_min_1) B.pre
  have hts : ∀ w ∈ gT, w.before _ s = true := fun w h => hts0 w (List.mem_cons_of_mem _ h)
  have hown : s.vm.findClass R_JM = some m.cls := findClass_of_methodNamed B.named
  have hlocks := B.notSynchronized
  have hl := lv_entry ([.long (lZ a), .long (lZ b)]) (n := 4) (Nat.le_of_ble_eq_true rfl)
  rw [lg_entry_eq]
  generalize (lg_sl ([.long (lZ a), .long (lZ b)]) ++ List.replicate (4 - (lg_sl ([.long (lZ a), .long (lZ b)])).length) Slot.unset).toArray = ls at hl ⊢
  have hl : lv_has ls 4 [(0, .long (lZ a)), (2, .long (lZ b))] := hl
  refine lv_lload_n hx hb d_JM_min_1_0 rfl (lv_at hl 0 rfl) ?_
  refine lv_lload_n hx hb d_JM_min_1_1 rfl (lv_at hl 1 rfl) ?_
  refine zl_gt (tgt := 10) hx hb d_JM_min_1_2 d_JM_min_1_3 (by decide) (by omega) (by omega) (by omega) (by omega) (fun c_2 => ?_) (fun c_2 => ?_)
  · refine lv_lload_n hx hb d_JM_min_1_10 rfl (lv_at hl 1 rfl) ?_
    exact W.lret hx hb hr (fun t ht hW => ⟨_, rfl, congrArg lZ (by omega), ht⟩) (fun q h => nomatch h) d_JM_min_1_11
  · refine lv_lload_n hx hb d_JM_min_1_6 rfl (lv_at hl 0 rfl) ?_
    refine lv_goto (tgt := 11) hx hb d_JM_min_1_7 (by decide) ?_
    exact W.lret hx hb hr (fun t ht hW => ⟨_, rfl, congrArg lZ (by omega), ht⟩) (fun q h => nomatch h) d_JM_min_1_11
theorem d_JM_abs_0 : decode c_yJM_abs 0 = .ok (.iload_n 0, 1) := by decide +kernel
theorem d_JM_abs_1 : decode c_yJM_abs 1 = .ok (.ifCond .ge 8, 3) := by decide +kernel
theorem d_JM_abs_4 : decode c_yJM_abs 4 = .ok (.iload_n 0, 1) := by decide +kernel
theorem d_JM_abs_5 : decode c_yJM_abs 5 = .ok (.ineg, 1) := by decide +kernel
theorem d_JM_abs_6 : decode c_yJM_abs 6 = .ok (.goto 4, 3) := by decide +kernel
theorem d_JM_abs_9 : decode c_yJM_abs 9 = .ok (.iload_n 0, 1) := by decide +kernel
theorem d_JM_abs_10 : decode c_yJM_abs 10 = .ok (.ireturn, 1) := by decide +kernel
set_option maxHeartbeats 4000000 in
set_option maxRecDepth 100000 in
theorem c_Math_abs (l : Launch) (dC : Nat → ClassId) (dI : Nat → Nat → Nat) (a : Int) (a1 : -2147483648 ≤ a) (a2 : a ≤ 2147483647) : Met l y_JM_abs w_JM_abs ({ frames := 0, cells := 0, slots := 0, locals := 0 }) (va_Pc [.int (iZ a)] (zPr (dC, dI) vwCl [] [])) (vp_Si (fun r => r = iZ (if a < 0 then -a else a))) 0 0 (fun _ => False) := by
  refine va_MetF (cc := c_yJM_abs) (maxL := 1) (ret := (some .int)) (by decide +kernel) rfl ?_
  intro p e s m args below meth c s₁ B hml hv
  obtain ⟨rfl, hP, hK⟩ := hv
  have hx := B.exec
  have hb := B.bytes
  have hr := B.returns
  have hts0 := atoms_spec (ws := w_JM_abs) B.pre
  have hts : ∀ w ∈ gT, w.before _ s = true := fun w h => hts0 w (List.mem_cons_of_mem _ h)
  have hown : s.vm.findClass R_JM = some m.cls := findClass_of_methodNamed B.named
  have hlocks := B.notSynchronized
  have hl := lv_entry ([.int (iZ a)]) (n := 1) (Nat.le_of_ble_eq_true rfl)
  rw [lg_entry_eq]
  generalize (lg_sl ([.int (iZ a)]) ++ List.replicate (1 - (lg_sl ([.int (iZ a)])).length) Slot.unset).toArray = ls at hl ⊢
  have hl : lv_has ls 1 [(0, .int (iZ a))] := hl
  refine lv_iload_n hx hb d_JM_abs_0 rfl (lv_at hl 0 rfl) ?_
  refine zi_if_ge (tgt := 9) hx hb d_JM_abs_1 (by decide) (by omega) (by omega) (fun c_1 => ?_) (fun c_1 => ?_)
  · refine lv_iload_n hx hb d_JM_abs_9 rfl (lv_at hl 0 rfl) ?_
    exact W.iret hx hb hr (fun t ht hW => ⟨_, rfl, congrArg iZ (by omega), ht⟩) (fun q h => nomatch h) d_JM_abs_10
  · refine lv_iload_n hx hb d_JM_abs_4 rfl (lv_at hl 0 rfl) ?_
    refine zi_neg hx hb d_JM_abs_5 ?_
    refine lv_goto (tgt := 10) hx hb d_JM_abs_6 (by decide) ?_
    exact W.iret hx hb hr (fun t ht hW => ⟨_, rfl, congrArg iZ (by omega), ht⟩) (fun q h => nomatch h) d_JM_abs_10
theorem d_JM_floorDiv_0_0 : decode c_yJM_floorDiv_0 0 = .ok (.iload_n 0, 1) := by decide +kernel
theorem d_JM_floorDiv_0_1 : decode c_yJM_floorDiv_0 1 = .ok (.iload_n 1, 1) := by decide +kernel
theorem d_JM_floorDiv_0_2 : decode c_yJM_floorDiv_0 2 = .ok (.idiv, 1) := by decide +kernel
theorem d_JM_floorDiv_0_3 : decode c_yJM_floorDiv_0 3 = .ok (.istore_n 2, 1) := by decide +kernel
theorem d_JM_floorDiv_0_4 : decode c_yJM_floorDiv_0 4 = .ok (.iload_n 0, 1) := by decide +kernel
theorem d_JM_floorDiv_0_5 : decode c_yJM_floorDiv_0 5 = .ok (.iload_n 1, 1) := by decide +kernel
theorem d_JM_floorDiv_0_6 : decode c_yJM_floorDiv_0 6 = .ok (.ixor, 1) := by decide +kernel
theorem d_JM_floorDiv_0_7 : decode c_yJM_floorDiv_0 7 = .ok (.ifCond .ge 14, 3) := by decide +kernel
theorem d_JM_floorDiv_0_10 : decode c_yJM_floorDiv_0 10 = .ok (.iload_n 2, 1) := by decide +kernel
theorem d_JM_floorDiv_0_11 : decode c_yJM_floorDiv_0 11 = .ok (.iload_n 1, 1) := by decide +kernel
theorem d_JM_floorDiv_0_12 : decode c_yJM_floorDiv_0 12 = .ok (.imul, 1) := by decide +kernel
theorem d_JM_floorDiv_0_13 : decode c_yJM_floorDiv_0 13 = .ok (.iload_n 0, 1) := by decide +kernel
theorem d_JM_floorDiv_0_14 : decode c_yJM_floorDiv_0 14 = .ok (.if_icmp .eq 7, 3) := by decide +kernel
theorem d_JM_floorDiv_0_17 : decode c_yJM_floorDiv_0 17 = .ok (.iload_n 2, 1) := by decide +kernel
theorem d_JM_floorDiv_0_18 : decode c_yJM_floorDiv_0 18 = .ok (.iconst 1, 1) := by decide +kernel
theorem d_JM_floorDiv_0_19 : decode c_yJM_floorDiv_0 19 = .ok (.isub, 1) := by decide +kernel
theorem d_JM_floorDiv_0_20 : decode c_yJM_floorDiv_0 20 = .ok (.ireturn, 1) := by decide +kernel
theorem d_JM_floorDiv_0_21 : decode c_yJM_floorDiv_0 21 = .ok (.iload_n 2, 1) := by decide +kernel
theorem d_JM_floorDiv_0_22 : decode c_yJM_floorDiv_0 22 = .ok (.ireturn, 1) := by decide +kernel
set_option maxHeartbeats 4000000 in
set_option maxRecDepth 100000 in
theorem c_Math_fdi (l : Launch) (dC : Nat → ClassId) (dI : Nat → Nat → Nat) (a b : Int) (a1 : 0 ≤ a) (a2 : a ≤ 2147483647) (b1 : 0 < b) (b2 : b ≤ 2147483647) : Met l y_JM_floorDiv_0 w_JM_floorDiv_0 ({ frames := 0, cells := 0, slots := 0, locals := 0 }) (va_Pc [.int (iZ a), .int (iZ b)] (zPr (dC, dI) vwCl [] [])) (vp_Si (fun r => r = iZ (a / b))) 0 0 (fun _ => False) := by
  refine va_MetF (cc := c_yJM_floorDiv_0) (maxL := 3) (ret := (some .int)) (by decide +kernel) rfl ?_
  intro p e s m args below meth c s₁ B hml hv
  obtain ⟨rfl, hP, hK⟩ := hv
  have hx := B.exec
  have hb := B.bytes
  have hr := B.returns
  have hts0 := atoms_spec (ws := w_JM_floorDiv_0) B.pre
  have hts : ∀ w ∈ gT, w.before _ s = true := fun w h => hts0 w (List.mem_cons_of_mem _ h)
  have hown : s.vm.findClass R_JM = some m.cls := findClass_of_methodNamed B.named
  have hlocks := B.notSynchronized
  have hl := lv_entry ([.int (iZ a), .int (iZ b)]) (n := 3) (Nat.le_of_ble_eq_true rfl)
  rw [lg_entry_eq]
  generalize (lg_sl ([.int (iZ a), .int (iZ b)]) ++ List.replicate (3 - (lg_sl ([.int (iZ a), .int (iZ b)])).length) Slot.unset).toArray = ls at hl ⊢
  have hl : lv_has ls 3 [(0, .int (iZ a)), (1, .int (iZ b))] := hl
  refine lv_iload_n hx hb d_JM_floorDiv_0_0 rfl (lv_at hl 0 rfl) ?_
  refine lv_iload_n hx hb d_JM_floorDiv_0_1 rfl (lv_at hl 1 rfl) ?_
  refine zi_div hx hb d_JM_floorDiv_0_2 (by omega) (by omega) (by omega) (by omega) ?_
  refine zn_z (fun q e_q => ?_)
  refine lv_istore_n (lv' := [(2, .int (iZ q)), (0, .int (iZ a)), (1, .int (iZ b))]) hx hb d_JM_floorDiv_0_3 rfl hl (by decide) rfl (fun ls hl => ?_)
  refine lv_iload_n hx hb d_JM_floorDiv_0_4 rfl (lv_at hl 1 rfl) ?_
  refine lv_iload_n hx hb d_JM_floorDiv_0_5 rfl (lv_at hl 2 rfl) ?_
  refine lv_ixor hx hb d_JM_floorDiv_0_6 ?_
  refine lv_if_ge (tgt := 21) hx hb d_JM_floorDiv_0_7 (by decide) (fun c_7 => ?_) (fun c_7 => ?_)
  · refine lv_iload_n hx hb d_JM_floorDiv_0_21 rfl (lv_at hl 0 rfl) ?_
    exact W.iret hx hb hr (fun t ht hW => ⟨_, rfl, congrArg iZ (by omega), ht⟩) (fun q h => nomatch h) d_JM_floorDiv_0_22
  · exact absurd (iZ_xnn a1 a2 (by omega) b2) c_7
theorem d_JM_floorDiv_1_0 : decode c_yJM_floorDiv_1 0 = .ok (.lload_n 0, 1) := by decide +kernel
theorem d_JM_floorDiv_1_1 : decode c_yJM_floorDiv_1 1 = .ok (.lload_n 2, 1) := by decide +kernel
theorem d_JM_floorDiv_1_2 : decode c_yJM_floorDiv_1 2 = .ok (.ldiv, 1) := by decide +kernel
theorem d_JM_floorDiv_1_3 : decode c_yJM_floorDiv_1 3 = .ok (.lstore 4, 2) := by decide +kernel
theorem d_JM_floorDiv_1_5 : decode c_yJM_floorDiv_1 5 = .ok (.lload_n 0, 1) := by decide +kernel
theorem d_JM_floorDiv_1_6 : decode c_yJM_floorDiv_1 6 = .ok (.lload_n 2, 1) := by decide +kernel
theorem d_JM_floorDiv_1_7 : decode c_yJM_floorDiv_1 7 = .ok (.lxor, 1) := by decide +kernel
theorem d_JM_floorDiv_1_8 : decode c_yJM_floorDiv_1 8 = .ok (.lconst 0, 1) := by decide +kernel
theorem d_JM_floorDiv_1_9 : decode c_yJM_floorDiv_1 9 = .ok (.lcmp, 1) := by decide +kernel
theorem d_JM_floorDiv_1_10 : decode c_yJM_floorDiv_1 10 = .ok (.ifCond .ge 17, 3) := by decide +kernel
theorem d_JM_floorDiv_1_13 : decode c_yJM_floorDiv_1 13 = .ok (.lload 4, 2) := by decide +kernel
theorem d_JM_floorDiv_1_15 : decode c_yJM_floorDiv_1 15 = .ok (.lload_n 2, 1) := by decide +kernel
theorem d_JM_floorDiv_1_16 : decode c_yJM_floorDiv_1 16 = .ok (.lmul, 1) := by decide +kernel
theorem d_JM_floorDiv_1_17 : decode c_yJM_floorDiv_1 17 = .ok (.lload_n 0, 1) := by decide +kernel
theorem d_JM_floorDiv_1_18 : decode c_yJM_floorDiv_1 18 = .ok (.lcmp, 1) := by decide +kernel
theorem d_JM_floorDiv_1_19 : decode c_yJM_floorDiv_1 19 = .ok (.ifCond .eq 8, 3) := by decide +kernel
theorem d_JM_floorDiv_1_22 : decode c_yJM_floorDiv_1 22 = .ok (.lload 4, 2) := by decide +kernel
theorem d_JM_floorDiv_1_24 : decode c_yJM_floorDiv_1 24 = .ok (.lconst 1, 1) := by decide +kernel
theorem d_JM_floorDiv_1_25 : decode c_yJM_floorDiv_1 25 = .ok (.lsub, 1) := by decide +kernel
theorem d_JM_floorDiv_1_26 : decode c_yJM_floorDiv_1 26 = .ok (.lreturn, 1) := by decide +kernel
theorem d_JM_floorDiv_1_27 : decode c_yJM_floorDiv_1 27 = .ok (.lload 4, 2) := by decide +kernel
theorem d_JM_floorDiv_1_29 : decode c_yJM_floorDiv_1 29 = .ok (.lreturn, 1) := by decide +kernel
set_option maxHeartbeats 4000000 in
set_option maxRecDepth 100000 in
theorem c_Math_fdl (l : Launch) (dC : Nat → ClassId) (dI : Nat → Nat → Nat) (a b : Int) (a1 : -4611686018427387904 ≤ a) (a2 : a ≤ 4611686018427387904) (b0 : b ≠ 0) (b1 : -4611686018427387904 ≤ b) (b2 : b ≤ 4611686018427387904) : Met l y_JM_floorDiv_1 w_JM_floorDiv_1 ({ frames := 0, cells := 0, slots := 0, locals := 0 }) (va_Pc [.long (lZ a), .long (lZ b)] (zPr (dC, dI) vwCl [] [])) (vp_Sl (fun r => ∃ z : Int, r = lZ z ∧ fdS a b z)) 0 0 (fun _ => False) := by
  refine va_MetF (cc := c_yJM_floorDiv_1) (maxL := 6) (ret := (some .long)) (by decide +kernel) rfl ?_
  intro p e s m args below meth c s₁ B hml hv
  obtain ⟨rfl, hP, hK⟩ := hv
  have hx := B.exec
  have hb := B.bytes
  have hr := B.returns
  have hts0 := atoms_spec (ws := w_JM_floorDiv_1) B.pre
  have hts : ∀ w ∈ gT, w.before _ s = true := fun w h => hts0 w (List.mem_cons_of_mem _ h)
  have hown : s.vm.findClass R_JM = some m.cls := findClass_of_methodNamed B.named
  have hlocks := B.notSynchronized
  have hl := lv_entry ([.long (lZ a), .long (lZ b)]) (n := 6) (Nat.le_of_ble_eq_true rfl)
  rw [lg_entry_eq]
  generalize (lg_sl ([.long (lZ a), .long (lZ b)]) ++ List.replicate (6 - (lg_sl ([.long (lZ a), .long (lZ b)])).length) Slot.unset).toArray = ls at hl ⊢
  have hl : lv_has ls 6 [(0, .long (lZ a)), (2, .long (lZ b))] := hl
  have xs := lZ_xneg (x := a) (y := b) (by omega) (by omega) (by omega) (by omega)
  have ab := tdiv_ab a b
  refine lv_lload_n hx hb d_JM_floorDiv_1_0 rfl (lv_at hl 0 rfl) ?_
  refine lv_lload_n hx hb d_JM_floorDiv_1_1 rfl (lv_at hl 1 rfl) ?_
  refine zl_tdiv hx hb d_JM_floorDiv_1_2 (by omega) (by omega) (by omega) (by omega) (by omega) ?_
  refine zn_Z (fun q e_q => ?_)
  refine lv_lstore (lv' := [(4, .long (lZ q)), (0, .long (lZ a)), (2, .long (lZ b))]) hx hb d_JM_floorDiv_1_3 hl (by decide) rfl (fun ls hl => ?_)
  refine lv_lload_n hx hb d_JM_floorDiv_1_5 rfl (lv_at hl 1 rfl) ?_
  refine lv_lload_n hx hb d_JM_floorDiv_1_6 rfl (lv_at hl 2 rfl) ?_
  refine lv_lxor hx hb d_JM_floorDiv_1_7 ?_
  refine lv_lconst (v := lZ 0) hx hb d_JM_floorDiv_1_8 (by decide) ?_
  refine zr_ge (tgt := 27) hx hb d_JM_floorDiv_1_9 d_JM_floorDiv_1_10 (by decide) (fun c_9 => ?_) (fun c_9 => ?_)
  · refine lv_lload hx hb d_JM_floorDiv_1_27 (lv_at hl 0 rfl) ?_
    exact W.lret hx hb hr (fun t ht hW => ⟨_, rfl, ⟨_, rfl, by rw [e_q]; exact fd_pos b0 (Or.inl (fun q9 => c_9 (xs.mpr q9)))⟩, ht⟩) (fun q h => nomatch h) d_JM_floorDiv_1_29
  · have m9 := tdiv_mb a b
    rw [← e_q] at m9
    refine lv_lload hx hb d_JM_floorDiv_1_13 (lv_at hl 0 rfl) ?_
    refine lv_lload_n hx hb d_JM_floorDiv_1_15 rfl (lv_at hl 2 rfl) ?_
    refine zl_mul hx hb d_JM_floorDiv_1_16 ?_
    refine lv_lload_n hx hb d_JM_floorDiv_1_17 rfl (lv_at hl 1 rfl) ?_
    refine zl_eq (tgt := 27) hx hb d_JM_floorDiv_1_18 d_JM_floorDiv_1_19 (by decide) (by omega) (by omega) (by omega) (by omega) (fun c_18 => ?_) (fun c_18 => ?_)
    · refine lv_lload hx hb d_JM_floorDiv_1_27 (lv_at hl 0 rfl) ?_
      exact W.lret hx hb hr (fun t ht hW => ⟨_, rfl, ⟨_, rfl, by rw [e_q]; exact fd_pos b0 (Or.inr (by rw [← e_q]; omega))⟩, ht⟩) (fun q h => nomatch h) d_JM_floorDiv_1_29
    · refine lv_lload hx hb d_JM_floorDiv_1_22 (lv_at hl 0 rfl) ?_
      refine lv_lconst (v := lZ 1) hx hb d_JM_floorDiv_1_24 (by decide) ?_
      refine zl_sub hx hb d_JM_floorDiv_1_25 ?_
      exact W.lret hx hb hr (fun t ht hW => ⟨_, rfl, ⟨_, rfl, by rw [e_q]; exact fd_neg b0 (xs.mp c_9) (by rw [← e_q]; omega)⟩, ht⟩) (fun q h => nomatch h) d_JM_floorDiv_1_26
theorem d_JA_fill_1_0 : decode c_yJA_fill_1 0 = .ok (.iconst 0, 1) := by decide +kernel
theorem d_JA_fill_1_1 : decode c_yJA_fill_1 1 = .ok (.istore_n 3, 1) := by decide +kernel
theorem d_JA_fill_1_2 : decode c_yJA_fill_1 2 = .ok (.aload_n 0, 1) := by decide +kernel
theorem d_JA_fill_1_3 : decode c_yJA_fill_1 3 = .ok (.arraylength, 1) := by decide +kernel
theorem d_JA_fill_1_4 : decode c_yJA_fill_1 4 = .ok (.istore 4, 2) := by decide +kernel
theorem d_JA_fill_1_6 : decode c_yJA_fill_1 6 = .ok (.iload_n 3, 1) := by decide +kernel
theorem d_JA_fill_1_7 : decode c_yJA_fill_1 7 = .ok (.iload 4, 2) := by decide +kernel
theorem d_JA_fill_1_9 : decode c_yJA_fill_1 9 = .ok (.if_icmp .ge 13, 3) := by decide +kernel
theorem d_JA_fill_1_12 : decode c_yJA_fill_1 12 = .ok (.aload_n 0, 1) := by decide +kernel
theorem d_JA_fill_1_13 : decode c_yJA_fill_1 13 = .ok (.iload_n 3, 1) := by decide +kernel
theorem d_JA_fill_1_14 : decode c_yJA_fill_1 14 = .ok (.lload_n 1, 1) := by decide +kernel
theorem d_JA_fill_1_15 : decode c_yJA_fill_1 15 = .ok (.lastore, 1) := by decide +kernel
theorem d_JA_fill_1_16 : decode c_yJA_fill_1 16 = .ok (.iinc 3 1, 3) := by decide +kernel
theorem d_JA_fill_1_19 : decode c_yJA_fill_1 19 = .ok (.goto (-13), 3) := by decide +kernel
theorem d_JA_fill_1_22 : decode c_yJA_fill_1 22 = .ok (.return_, 1) := by decide +kernel
set_option maxHeartbeats 4000000 in
set_option maxRecDepth 100000 in
theorem c_fillL (l : Launch) (dC : Nat → ClassId) (dI : Nat → Nat → Nat) (ha : Nat) (cA : ClassId) (n : Nat) (G : Int → Int64) (x : Int64) (sz : Nat) (n2 : n < 2147483648) : Met l y_JA_fill_1 w_JA_fill_1 ({ frames := 0, cells := 0, slots := 0, locals := 0 }) (va_Pc [.ref ha, .long x] (zPm (dC, dI) vwCl [(ha, .inl (cA, n, .inr (.inl (aL G))))] [(cA, .long)] sz)) (va_Qv (fun (u : Int → Int64) => ∀ i : Int, 0 ≤ i → i < n → u i = x) (fun u => zB (dC, dI) vwCl [(cA, .long)] (va_A [(ha, .inl (cA, n, .inr (.inl (aL G))))] sz) [(ha, .inl (cA, n, .inr (.inl (aL u))))]) (va_A [(ha, .inl (cA, n, .inr (.inl (aL G))))] sz)) 0 0 (va_A [(ha, .inl (cA, n, .inr (.inl (aL G))))] sz) := by
  refine va_MetF (cc := c_yJA_fill_1) (maxL := 5) (ret := none) (by decide +kernel) rfl ?_
  intro p e s m args below meth c s₁ B hml hv
  obtain ⟨rfl, hsz, hP, hK, hD0⟩ := hv
  have hx := B.exec
  have hb := B.bytes
  have hr := B.returns
  have hts0 := atoms_spec (ws := w_JA_fill_1) B.pre
  have hts : ∀ w ∈ gT, w.before _ s = true := fun w h => hts0 w (List.mem_cons_of_mem _ h)
  have hown : s.vm.findClass R_JA = some m.cls := findClass_of_methodNamed B.named
  have hlocks := B.notSynchronized
  subst hsz
  have hD := hD0.self (sz := s.heap.size)
  generalize hAe : va_A [(ha, .inl (cA, n, .inr (.inl (aL G))))] s.heap.size = A at hD ⊢
  have hA : ∀ q : Nat, s.heap.size ≤ q → A q := fun q h => by rw [← hAe]; exact Or.inr h
  obtain ⟨H, hH⟩ : ∃ H, s.heap = H := ⟨_, rfl⟩
  have hS : va_S A s.heap H [] := by rw [← hH]; exact va_S.rf
  rw [hH] at hP
  rw [hH]
  have hl := lv_entry ([.ref ha, .long x]) (n := 5) (Nat.le_of_ble_eq_true rfl)
  rw [lg_entry_eq]
  generalize (lg_sl ([.ref ha, .long x]) ++ List.replicate (5 - (lg_sl ([.ref ha, .long x])).length) Slot.unset).toArray = ls at hl ⊢
  have hl : lv_has ls 5 [(0, .ref ha), (1, .long x)] := hl
  refine lv_iconst (v := iZ (0)) hx hb d_JA_fill_1_0 rfl ?_
  refine lv_istore_n (lv' := [(3, .int (iZ 0)), (0, .ref ha), (1, .long x)]) hx hb d_JA_fill_1_1 rfl hl (by decide) rfl (fun ls hl => ?_)
  refine lv_aload_n hx hb d_JA_fill_1_2 rfl (lv_at hl 1 rfl) ?_
  refine va_alen (v := iZ n) hx hb hK hP 0 0 rfl rfl rfl d_JA_fill_1_3 ?_
  refine lv_istore (lv' := [(4, .int (iZ n)), (3, .int (iZ 0)), (0, .ref ha), (1, .long x)]) hx hb d_JA_fill_1_4 hl (by decide) rfl (fun ls hl => ?_)
  have LP_6 : ∀ (n_6 : Nat) (i : Int) (K : Int → Int64), (0 ≤ i) → (i ≤ n) → (∀ j : Int, 0 ≤ j → j < i → K j = x) → (n - i).toNat < n_6 → ∀ (H : Heap) (locs : List Loc), va_P (dC, dI) vwCl [(ha, .inl (cA, n, .inr (.inl (aL K))))] H → va_D A [(ha, .inl (cA, n, .inr (.inl (aL K))))] → va_S A s.heap H locs → ∀ (ls : Array Slot), lv_has ls 5 [(0, .ref ha), (1, .long x), (3, .int (iZ i)), (4, .int (iZ n))] → W p l e ({ frames := 0, cells := 0, slots := 0, locals := 0 } : Room) s m ([.ref ha, .long x] : List Value).toArray below meth c H locs 0 0 (MQ below (va_Qv (fun (u : Int → Int64) => ∀ i : Int, 0 ≤ i → i < n → u i = x) (fun u => zB (dC, dI) vwCl [(cA, .long)] A [(ha, .inl (cA, n, .inr (.inl (aL u))))]) A) ([.ref ha, .long x] : List Value).toArray s 0 0 A) (F0 m 6 ls []) := by
    intro n_6
    induction n_6 with
    | zero => intro i K i1 i2 i3 hm; exact absurd hm (by omega)
    | succ n_6 ih_6 =>
      intro i K i1 i2 i3 hm_6 H locs hP hD hS ls hl
      refine lv_iload_n hx hb d_JA_fill_1_6 rfl (lv_at hl 2 rfl) ?_
      refine lv_iload hx hb d_JA_fill_1_7 (lv_at hl 3 rfl) ?_
      refine zi_ge (tgt := 22) hx hb d_JA_fill_1_9 (by decide) (by omega) (by omega) (by omega) (by omega) (fun c_9 => ?_) (fun c_9 => ?_)
      · exact W.vret hx hb hr (fun t ht hW => ⟨⟨K, rfl, fun j h1 h2 => i3 j h1 (by omega), by rw [ht]; exact hP, va_K.moved hW.alike hK, hD⟩, hS.F ht⟩) hS.2.2 d_JA_fill_1_22
      · refine lv_aload_n hx hb d_JA_fill_1_12 rfl (lv_at hl 0 rfl) ?_
        refine lv_iload_n hx hb d_JA_fill_1_13 rfl (lv_at hl 2 rfl) ?_
        refine lv_lload_n hx hb d_JA_fill_1_14 rfl (lv_at hl 1 rfl) ?_
        refine z_last hx hb hK hP hD hS 0 0 rfl rfl (by omega) (by omega) (by omega) d_JA_fill_1_15 (fun H locs hP hD hS => ?_)
        have hP : va_P (dC, dI) vwCl [(ha, .inl (cA, n, .inr (.inl (aL (upZ K i x)))))] H := hP
        have hD : va_D A [(ha, .inl (cA, n, .inr (.inl (aL (upZ K i x)))))] := hD
        refine lv_iinc (v := iZ (i + 1)) (lv' := [(3, .int (iZ (i + 1))), (0, .ref ha), (1, .long x), (4, .int (iZ n))]) hx hb d_JA_fill_1_16 hl (k := 2) rfl (iZ_add _ _) (by decide) rfl (fun ls hl => ?_)
        refine lv_goto (tgt := 6) hx hb d_JA_fill_1_19 (by decide) ?_
        exact ih_6 (i + 1) (upZ K i x) (by omega) (by omega) (fun j h1 h2 => by by_cases q : j = i; (rw [q, upZ_s]); (rw [upZ_n _ _ q]; exact i3 j h1 (by omega))) (by omega) _ _ hP hD hS ls (lv_sub hl [1, 2, 0, 3] rfl)
  exact LP_6 _ 0 G (by omega) (by omega) (fun j h1 h2 => absurd h2 (by omega)) (Nat.lt_succ_self _) _ _ hP hD hS ls (lv_sub hl [2, 3, 1, 0] rfl)
theorem d_JA_fill_0_0 : decode c_yJA_fill_0 0 = .ok (.iconst 0, 1) := by decide +kernel
theorem d_JA_fill_0_1 : decode c_yJA_fill_0 1 = .ok (.istore_n 2, 1) := by decide +kernel
theorem d_JA_fill_0_2 : decode c_yJA_fill_0 2 = .ok (.aload_n 0, 1) := by decide +kernel
theorem d_JA_fill_0_3 : decode c_yJA_fill_0 3 = .ok (.arraylength, 1) := by decide +kernel
theorem d_JA_fill_0_4 : decode c_yJA_fill_0 4 = .ok (.istore_n 3, 1) := by decide +kernel
theorem d_JA_fill_0_5 : decode c_yJA_fill_0 5 = .ok (.iload_n 2, 1) := by decide +kernel
theorem d_JA_fill_0_6 : decode c_yJA_fill_0 6 = .ok (.iload_n 3, 1) := by decide +kernel
theorem d_JA_fill_0_7 : decode c_yJA_fill_0 7 = .ok (.if_icmp .ge 13, 3) := by decide +kernel
theorem d_JA_fill_0_10 : decode c_yJA_fill_0 10 = .ok (.aload_n 0, 1) := by decide +kernel
theorem d_JA_fill_0_11 : decode c_yJA_fill_0 11 = .ok (.iload_n 2, 1) := by decide +kernel
theorem d_JA_fill_0_12 : decode c_yJA_fill_0 12 = .ok (.iload_n 1, 1) := by decide +kernel
theorem d_JA_fill_0_13 : decode c_yJA_fill_0 13 = .ok (.iastore, 1) := by decide +kernel
theorem d_JA_fill_0_14 : decode c_yJA_fill_0 14 = .ok (.iinc 2 1, 3) := by decide +kernel
theorem d_JA_fill_0_17 : decode c_yJA_fill_0 17 = .ok (.goto (-12), 3) := by decide +kernel
theorem d_JA_fill_0_20 : decode c_yJA_fill_0 20 = .ok (.return_, 1) := by decide +kernel
set_option maxHeartbeats 4000000 in
set_option maxRecDepth 100000 in
theorem c_fillI (l : Launch) (dC : Nat → ClassId) (dI : Nat → Nat → Nat) (ha : Nat) (cA : ClassId) (n : Nat) (G : Int → Int32) (x : Int32) (sz : Nat) (n2 : n < 2147483648) : Met l y_JA_fill_0 w_JA_fill_0 ({ frames := 0, cells := 0, slots := 0, locals := 0 }) (va_Pc [.ref ha, .int x] (zPm (dC, dI) vwCl [(ha, .inl (cA, n, .inl (aI G)))] [(cA, .int)] sz)) (va_Qv (fun (u : Int → Int32) => ∀ i : Int, 0 ≤ i → i < n → u i = x) (fun u => zB (dC, dI) vwCl [(cA, .int)] (va_A [(ha, .inl (cA, n, .inl (aI G)))] sz) [(ha, .inl (cA, n, .inl (aI u)))]) (va_A [(ha, .inl (cA, n, .inl (aI G)))] sz)) 0 0 (va_A [(ha, .inl (cA, n, .inl (aI G)))] sz) := by
  refine va_MetF (cc := c_yJA_fill_0) (maxL := 4) (ret := none) (by decide +kernel) rfl ?_
  intro p e s m args below meth c s₁ B hml hv
  obtain ⟨rfl, hsz, hP, hK, hD0⟩ := hv
  have hx := B.exec
  have hb := B.bytes
  have hr := B.returns
  have hts0 := atoms_spec (ws := w_JA_fill_0) B.pre
  have hts : ∀ w ∈ gT, w.before _ s = true := fun w h => hts0 w (List.mem_cons_of_mem _ h)
  have hown : s.vm.findClass R_JA = some m.cls := findClass_of_methodNamed B.named
  have hlocks := B.notSynchronized
  subst hsz
  have hD := hD0.self (sz := s.heap.size)
  generalize hAe : va_A [(ha, .inl (cA, n, .inl (aI G)))] s.heap.size = A at hD ⊢
  have hA : ∀ q : Nat, s.heap.size ≤ q → A q := fun q h => by rw [← hAe]; exact Or.inr h
  obtain ⟨H, hH⟩ : ∃ H, s.heap = H := ⟨_, rfl⟩
  have hS : va_S A s.heap H [] := by rw [← hH]; exact va_S.rf
  rw [hH] at hP
  rw [hH]
  have hl := lv_entry ([.ref ha, .int x]) (n := 4) (Nat.le_of_ble_eq_true rfl)
  rw [lg_entry_eq]
  generalize (lg_sl ([.ref ha, .int x]) ++ List.replicate (4 - (lg_sl ([.ref ha, .int x])).length) Slot.unset).toArray = ls at hl ⊢
  have hl : lv_has ls 4 [(0, .ref ha), (1, .int x)] := hl
  refine lv_iconst (v := iZ (0)) hx hb d_JA_fill_0_0 rfl ?_
  refine lv_istore_n (lv' := [(2, .int (iZ 0)), (0, .ref ha), (1, .int x)]) hx hb d_JA_fill_0_1 rfl hl (by decide) rfl (fun ls hl => ?_)
  refine lv_aload_n hx hb d_JA_fill_0_2 rfl (lv_at hl 1 rfl) ?_
  refine va_alen (v := iZ n) hx hb hK hP 0 0 rfl rfl rfl d_JA_fill_0_3 ?_
  refine lv_istore_n (lv' := [(3, .int (iZ n)), (2, .int (iZ 0)), (0, .ref ha), (1, .int x)]) hx hb d_JA_fill_0_4 rfl hl (by decide) rfl (fun ls hl => ?_)
  have LP_5 : ∀ (n_5 : Nat) (i : Int) (K : Int → Int32), (0 ≤ i) → (i ≤ n) → (∀ j : Int, 0 ≤ j → j < i → K j = x) → (n - i).toNat < n_5 → ∀ (H : Heap) (locs : List Loc), va_P (dC, dI) vwCl [(ha, .inl (cA, n, .inl (aI K)))] H → va_D A [(ha, .inl (cA, n, .inl (aI K)))] → va_S A s.heap H locs → ∀ (ls : Array Slot), lv_has ls 4 [(0, .ref ha), (1, .int x), (2, .int (iZ i)), (3, .int (iZ n))] → W p l e ({ frames := 0, cells := 0, slots := 0, locals := 0 } : Room) s m ([.ref ha, .int x] : List Value).toArray below meth c H locs 0 0 (MQ below (va_Qv (fun (u : Int → Int32) => ∀ i : Int, 0 ≤ i → i < n → u i = x) (fun u => zB (dC, dI) vwCl [(cA, .int)] A [(ha, .inl (cA, n, .inl (aI u)))]) A) ([.ref ha, .int x] : List Value).toArray s 0 0 A) (F0 m 5 ls []) := by
    intro n_5
    induction n_5 with
    | zero => intro i K i1 i2 i3 hm; exact absurd hm (by omega)
    | succ n_5 ih_5 =>
      intro i K i1 i2 i3 hm_5 H locs hP hD hS ls hl
      refine lv_iload_n hx hb d_JA_fill_0_5 rfl (lv_at hl 2 rfl) ?_
      refine lv_iload_n hx hb d_JA_fill_0_6 rfl (lv_at hl 3 rfl) ?_
      refine zi_ge (tgt := 20) hx hb d_JA_fill_0_7 (by decide) (by omega) (by omega) (by omega) (by omega) (fun c_7 => ?_) (fun c_7 => ?_)
      · exact W.vret hx hb hr (fun t ht hW => ⟨⟨K, rfl, fun j h1 h2 => i3 j h1 (by omega), by rw [ht]; exact hP, va_K.moved hW.alike hK, hD⟩, hS.F ht⟩) hS.2.2 d_JA_fill_0_20
      · refine lv_aload_n hx hb d_JA_fill_0_10 rfl (lv_at hl 0 rfl) ?_
        refine lv_iload_n hx hb d_JA_fill_0_11 rfl (lv_at hl 2 rfl) ?_
        refine lv_iload_n hx hb d_JA_fill_0_12 rfl (lv_at hl 1 rfl) ?_
        refine z_iast hx hb hK hP hD hS 0 0 rfl rfl (by omega) (by omega) (by omega) d_JA_fill_0_13 (fun H locs hP hD hS => ?_)
        have hP : va_P (dC, dI) vwCl [(ha, .inl (cA, n, .inl (aI (upZ K i x))))] H := hP
        have hD : va_D A [(ha, .inl (cA, n, .inl (aI (upZ K i x))))] := hD
        refine lv_iinc (v := iZ (i + 1)) (lv' := [(2, .int (iZ (i + 1))), (0, .ref ha), (1, .int x), (3, .int (iZ n))]) hx hb d_JA_fill_0_14 hl (k := 2) rfl (iZ_add _ _) (by decide) rfl (fun ls hl => ?_)
        refine lv_goto (tgt := 5) hx hb d_JA_fill_0_17 (by decide) ?_
        exact ih_5 (i + 1) (upZ K i x) (by omega) (by omega) (fun j h1 h2 => by by_cases q : j = i; (rw [q, upZ_s]); (rw [upZ_n _ _ q]; exact i3 j h1 (by omega))) (by omega) _ _ hP hD hS ls (lv_sub hl [1, 2, 0, 3] rfl)
  exact LP_5 _ 0 G (by omega) (by omega) (fun j h1 h2 => absurd h2 (by omega)) (Nat.lt_succ_self _) _ _ hP hD hS ls (lv_sub hl [2, 3, 1, 0] rfl)
