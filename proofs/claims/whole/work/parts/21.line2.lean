/-! the line's rows -/
theorem ln_W {dx dy t ex ey : Int} (h : lnB dx dy t ex ey) : lnW dx dy t ex ey := by
  rcases ln_cases h with y | y | ⟨y0, y1, y2, y3⟩
  · exact lw_A y
  · exact lw_C y
  · exact lw_S y0 y1 y2 y3
theorem ln_y {dx dy t ex ey : Int} (t1 : 1 ≤ t) (h : lnB dx dy t ex ey) : ey ≤ t / 2 + max 0 dy ∧ -(t / 2) + min 0 dy ≤ ey := by
  obtain ⟨n, M, M0, n0, n1, d⟩ := ln_W h
  have a := sq_nn (M * ex - n * dx)
  have e : (2 * (M * ey - n * dy)) * (2 * (M * ey - n * dy)) = 4 * ((M * ey - n * dy) * (M * ey - n * dy)) := by grind
  have e2 : (t * M) * (t * M) = t * t * (M * M) := by grind
  have tM : 0 ≤ t * M := Int.mul_nonneg (by omega) (by omega)
  have b : (2 * (M * ey - n * dy)) * (2 * (M * ey - n * dy)) ≤ (t * M) * (t * M) := by omega
  have c : -(t * M) ≤ 2 * (M * ey - n * dy) ∧ 2 * (M * ey - n * dy) ≤ t * M :=
    (root_abs tM (Int.le_refl _) (by have : (t * M + 1) * (t * M + 1) = t * M * (t * M) + 2 * (t * M) + 1 := by grind
                                     omega)).mpr b
  have p1 : n * dy ≤ M * max 0 dy := by
    rcases Int.le_total 0 dy with z | z
    · rw [show max 0 dy = dy by omega]; exact Int.mul_le_mul_of_nonneg_right n1 z
    · rw [show max 0 dy = 0 by omega, Int.mul_zero]; exact Int.mul_nonpos_of_nonneg_of_nonpos n0 z
  have p2 : M * min 0 dy ≤ n * dy := by
    rcases Int.le_total 0 dy with z | z
    · rw [show min 0 dy = 0 by omega, Int.mul_zero]; exact Int.mul_nonneg n0 z
    · rw [show min 0 dy = dy by omega]; exact Int.mul_le_mul_of_nonpos_right n1 z
  constructor
  · have q : M * (2 * ey) ≤ M * (t + 2 * max 0 dy) := by
      have g1 : M * (2 * ey) = 2 * (M * ey) := by grind
      have g2 : M * (t + 2 * max 0 dy) = t * M + 2 * (M * max 0 dy) := by grind
      omega
    have := Int.le_of_mul_le_mul_left q M0
    omega
  · have q : M * (-t + 2 * min 0 dy) ≤ M * (2 * ey) := by
      have g1 : M * (2 * ey) = 2 * (M * ey) := by grind
      have g2 : M * (-t + 2 * min 0 dy) = -(t * M) + 2 * (M * min 0 dy) := by grind
      omega
    have := Int.le_of_mul_le_mul_left q M0
    omega
noncomputable def lnD (a b c d t px py : Int) : Bool := @decide (lnB (c - a) (d - b) t (px - a) (py - b)) (Classical.propDecidable _)
theorem ln_out {a b c d t px py : Int} (t1 : 1 ≤ t) (q : py < min b d - t / 2 ∨ max b d + t / 2 < py) : lnD a b c d t px py = false := by
  unfold lnD
  rw [decide_eq_false_iff_not]
  intro z
  have := ln_y t1 z
  omega
theorem rw_step2 {w h mn : Int} {S T pic : Int → Int → Bool} {K u : Int → Int64} {row dn : Int} (q : rwI w h mn S pic K row dn) (r0 : 0 ≤ row) (r1 : row < h)
    (hu : Rep u (drw mn (fun x y => onB w h x y && T x y) (drw mn (fun x y => onB w h x y && (S x y && decide (y < row))) pic))) (hT : ∀ x y, onB w h x y = true → T x y = (S x y && decide (y = row))) : rwI w h mn S pic u (row + 1) (dn + cnt w h T) := by
  rw [cnt_ext (T := fun x y => S x y && decide (y = row)) (fun x y a b c d => hT x y (decide_eq_true ⟨a, b, c, d⟩))]
  refine rw_step q r0 r1 ?_ (fun x y => rfl)
  rw [drw_ext (T := fun x y => onB w h x y && T x y)]
  · exact hu
  · intro x y
    cases o : onB w h x y
    · rfl
    · rw [hT x y o]
theorem ln_row {a b c d t row lf rt w h : Int} (w2 : w ≤ 1024) (h2 : h ≤ 1024) (q : ∀ p9, -500000 ≤ p9 → p9 ≤ 500000 → (lf ≤ p9 ∧ p9 ≤ rt ↔ lnB (c - a) (d - b) t (p9 - a) (row - b))) (px py : Int) (o : onB w h px py = true) : bxB lf row rt row px py = (lnD a b c d t px py && decide (py = row)) := by
  have o := of_decide_eq_true o
  by_cases e : py = row
  · subst e
    rw [decide_eq_true rfl, Bool.and_true]
    unfold bxB lnD
    rw [decide_eq_decide, ← q px (by omega) (by omega)]
    omega
  · rw [decide_eq_false e, Bool.and_false]
    unfold bxB; exact decide_eq_false (by omega)
theorem d_Sk_init_0 : decode c_ySk_init 0 = .ok (.aload_n 0, 1) := by decide +kernel
theorem d_Sk_init_1 : decode c_ySk_init 1 = .ok (.invokespecial 1, 3) := by decide +kernel
theorem d_Sk_init_4 : decode c_ySk_init 4 = .ok (.aload_n 0, 1) := by decide +kernel
theorem d_Sk_init_5 : decode c_ySk_init 5 = .ok (.iload_n 1, 1) := by decide +kernel
theorem d_Sk_init_6 : decode c_ySk_init 6 = .ok (.putfield 7, 3) := by decide +kernel
theorem d_Sk_init_9 : decode c_ySk_init 9 = .ok (.aload_n 0, 1) := by decide +kernel
theorem d_Sk_init_10 : decode c_ySk_init 10 = .ok (.iload_n 2, 1) := by decide +kernel
theorem d_Sk_init_11 : decode c_ySk_init 11 = .ok (.putfield 13, 3) := by decide +kernel
theorem d_Sk_init_14 : decode c_ySk_init 14 = .ok (.aload_n 0, 1) := by decide +kernel
theorem d_Sk_init_15 : decode c_ySk_init 15 = .ok (.iload_n 3, 1) := by decide +kernel
theorem d_Sk_init_16 : decode c_ySk_init 16 = .ok (.putfield 16, 3) := by decide +kernel
theorem d_Sk_init_19 : decode c_ySk_init 19 = .ok (.aload_n 0, 1) := by decide +kernel
theorem d_Sk_init_20 : decode c_ySk_init 20 = .ok (.iload 4, 2) := by decide +kernel
theorem d_Sk_init_22 : decode c_ySk_init 22 = .ok (.putfield 19, 3) := by decide +kernel
theorem d_Sk_init_25 : decode c_ySk_init 25 = .ok (.aload_n 0, 1) := by decide +kernel
theorem d_Sk_init_26 : decode c_ySk_init 26 = .ok (.iload 5, 2) := by decide +kernel
theorem d_Sk_init_28 : decode c_ySk_init 28 = .ok (.putfield 22, 3) := by decide +kernel
theorem d_Sk_init_31 : decode c_ySk_init 31 = .ok (.aload_n 0, 1) := by decide +kernel
theorem d_Sk_init_32 : decode c_ySk_init 32 = .ok (.iload_n 3, 1) := by decide +kernel
theorem d_Sk_init_33 : decode c_ySk_init 33 = .ok (.iload_n 1, 1) := by decide +kernel
theorem d_Sk_init_34 : decode c_ySk_init 34 = .ok (.isub, 1) := by decide +kernel
theorem d_Sk_init_35 : decode c_ySk_init 35 = .ok (.i2l, 1) := by decide +kernel
theorem d_Sk_init_36 : decode c_ySk_init 36 = .ok (.putfield 25, 3) := by decide +kernel
theorem d_Sk_init_39 : decode c_ySk_init 39 = .ok (.aload_n 0, 1) := by decide +kernel
theorem d_Sk_init_40 : decode c_ySk_init 40 = .ok (.iload 4, 2) := by decide +kernel
theorem d_Sk_init_42 : decode c_ySk_init 42 = .ok (.iload_n 2, 1) := by decide +kernel
theorem d_Sk_init_43 : decode c_ySk_init 43 = .ok (.isub, 1) := by decide +kernel
theorem d_Sk_init_44 : decode c_ySk_init 44 = .ok (.i2l, 1) := by decide +kernel
theorem d_Sk_init_45 : decode c_ySk_init 45 = .ok (.putfield 29, 3) := by decide +kernel
theorem d_Sk_init_48 : decode c_ySk_init 48 = .ok (.aload_n 0, 1) := by decide +kernel
theorem d_Sk_init_49 : decode c_ySk_init 49 = .ok (.aload_n 0, 1) := by decide +kernel
theorem d_Sk_init_50 : decode c_ySk_init 50 = .ok (.getfield 25, 3) := by decide +kernel
theorem d_Sk_init_53 : decode c_ySk_init 53 = .ok (.aload_n 0, 1) := by decide +kernel
theorem d_Sk_init_54 : decode c_ySk_init 54 = .ok (.getfield 25, 3) := by decide +kernel
theorem d_Sk_init_57 : decode c_ySk_init 57 = .ok (.lmul, 1) := by decide +kernel
theorem d_Sk_init_58 : decode c_ySk_init 58 = .ok (.aload_n 0, 1) := by decide +kernel
theorem d_Sk_init_59 : decode c_ySk_init 59 = .ok (.getfield 29, 3) := by decide +kernel
theorem d_Sk_init_62 : decode c_ySk_init 62 = .ok (.aload_n 0, 1) := by decide +kernel
theorem d_Sk_init_63 : decode c_ySk_init 63 = .ok (.getfield 29, 3) := by decide +kernel
theorem d_Sk_init_66 : decode c_ySk_init 66 = .ok (.lmul, 1) := by decide +kernel
theorem d_Sk_init_67 : decode c_ySk_init 67 = .ok (.ladd, 1) := by decide +kernel
theorem d_Sk_init_68 : decode c_ySk_init 68 = .ok (.putfield 32, 3) := by decide +kernel
theorem d_Sk_init_71 : decode c_ySk_init 71 = .ok (.aload_n 0, 1) := by decide +kernel
theorem d_Sk_init_72 : decode c_ySk_init 72 = .ok (.iload 5, 2) := by decide +kernel
theorem d_Sk_init_74 : decode c_ySk_init 74 = .ok (.i2l, 1) := by decide +kernel
theorem d_Sk_init_75 : decode c_ySk_init 75 = .ok (.iload 5, 2) := by decide +kernel
theorem d_Sk_init_77 : decode c_ySk_init 77 = .ok (.i2l, 1) := by decide +kernel
theorem d_Sk_init_78 : decode c_ySk_init 78 = .ok (.lmul, 1) := by decide +kernel
theorem d_Sk_init_79 : decode c_ySk_init 79 = .ok (.aload_n 0, 1) := by decide +kernel
theorem d_Sk_init_80 : decode c_ySk_init 80 = .ok (.getfield 32, 3) := by decide +kernel
theorem d_Sk_init_83 : decode c_ySk_init 83 = .ok (.lmul, 1) := by decide +kernel
theorem d_Sk_init_84 : decode c_ySk_init 84 = .ok (.ldc2_w 35, 3) := by decide +kernel
theorem d_Sk_init_87 : decode c_ySk_init 87 = .ok (.ldiv, 1) := by decide +kernel
theorem d_Sk_init_88 : decode c_ySk_init 88 = .ok (.invokestatic 37, 3) := by decide +kernel
theorem d_Sk_init_91 : decode c_ySk_init 91 = .ok (.putfield 43, 3) := by decide +kernel
theorem d_Sk_init_94 : decode c_ySk_init 94 = .ok (.return_, 1) := by decide +kernel
set_option maxHeartbeats 4000000 in
set_option maxRecDepth 100000 in
theorem c_Stroke_init (l : Launch) (dC : Nat → ClassId) (dI : Nat → Nat → Nat) (hq : Nat) (a b c0 d t : Int) (sz : Nat) (t1 : 1 ≤ t) (t2 : t ≤ 200) (a1 : -4096 ≤ a) (b1 : -4096 ≤ b) (c01 : -4096 ≤ c0) (d1 : -4096 ≤ d) (a2 : a ≤ 4096) (b2 : b ≤ 4096) (c02 : c0 ≤ 4096) (d2 : d ≤ 4096) : Met l y_Sk_init w_Sk_init ({ frames := 1, cells := 0, slots := 0, locals := 27 }) (va_Pc [.ref hq, .int (iZ a), .int (iZ b), .int (iZ c0), .int (iZ d), .int (iZ t)] (zPm (dC, dI) vwCl [(hq, .inr (5, [.int (iZ 0), .int (iZ 0), .int (iZ 0), .int (iZ 0), .int (iZ 0), .long (lZ 0), .long (lZ 0), .long (lZ 0), .long (lZ 0), .int (iZ 0), .int (iZ 0)]))] [] sz)) (va_Qv (fun (u : Int) => 0 ≤ u ∧ u ≤ 2097151 ∧ u * u ≤ t * t * ((c0 - a) * (c0 - a) + (d - b) * (d - b)) / 4 ∧ t * t * ((c0 - a) * (c0 - a) + (d - b) * (d - b)) / 4 < (u + 1) * (u + 1)) (fun u => zB (dC, dI) vwCl [] (va_A [(hq, .inr (5, [.int (iZ 0), .int (iZ 0), .int (iZ 0), .int (iZ 0), .int (iZ 0), .long (lZ 0), .long (lZ 0), .long (lZ 0), .long (lZ 0), .int (iZ 0), .int (iZ 0)]))] sz) [(hq, .inr (5, [.int (iZ a), .int (iZ b), .int (iZ c0), .int (iZ d), .int (iZ t), .long (lZ (c0 - a)), .long (lZ (d - b)), .long (lZ ((c0 - a) * (c0 - a) + (d - b) * (d - b))), .long (lZ u), .int (iZ 0), .int (iZ 0)]))]) (va_A [(hq, .inr (5, [.int (iZ 0), .int (iZ 0), .int (iZ 0), .int (iZ 0), .int (iZ 0), .long (lZ 0), .long (lZ 0), .long (lZ 0), .long (lZ 0), .int (iZ 0), .int (iZ 0)]))] sz)) 0 0 (va_A [(hq, .inr (5, [.int (iZ 0), .int (iZ 0), .int (iZ 0), .int (iZ 0), .int (iZ 0), .long (lZ 0), .long (lZ 0), .long (lZ 0), .long (lZ 0), .int (iZ 0), .int (iZ 0)]))] sz) := by
  refine Met.ofW (cc := c_ySk_init) (maxL := 6) (ret := none) (by decide) rfl ?_
  intro p e s m args below meth c s₁ B hml hv
  obtain ⟨rfl, hsz, hP, hK, hD0⟩ := hv
  have hx := B.exec
  have hb := B.bytes
  have hr := B.returns
  have hts0 := atoms_spec (ws := w_Sk_init) B.pre
  have hts : ∀ w ∈ gT, w.before _ s = true := fun w h => hts0 w (List.mem_cons_of_mem _ h)
  have hown : s.vm.findClass R_Sk = some m.cls := findClass_of_methodNamed B.named
  have hlocks := B.notSynchronized
  have hin : meth.name = "<init>" := (name_of_methodNamed B.named B.method).1
  subst hsz
  have hD := hD0.self (sz := s.heap.size)
  generalize hAe : va_A [(hq, .inr (5, [.int (iZ 0), .int (iZ 0), .int (iZ 0), .int (iZ 0), .int (iZ 0), .long (lZ 0), .long (lZ 0), .long (lZ 0), .long (lZ 0), .int (iZ 0), .int (iZ 0)]))] s.heap.size = A at hD ⊢
  have hA : ∀ q : Nat, s.heap.size ≤ q → A q := fun q h => by rw [← hAe]; exact Or.inr h
  obtain ⟨H, hH⟩ : ∃ H, s.heap = H := ⟨_, rfl⟩
  have hS : va_S A s.heap H [] := by rw [← hH]; exact va_S.rf
  rw [hH] at hP
  rw [hH]
  have hl := lv_entry ([.ref hq, .int (iZ a), .int (iZ b), .int (iZ c0), .int (iZ d), .int (iZ t)]) (n := 6) (Nat.le_of_ble_eq_true rfl)
  rw [lg_entry_eq]
  generalize (lg_sl ([.ref hq, .int (iZ a), .int (iZ b), .int (iZ c0), .int (iZ d), .int (iZ t)]) ++ List.replicate (6 - (lg_sl ([.ref hq, .int (iZ a), .int (iZ b), .int (iZ c0), .int (iZ d), .int (iZ t)])).length) Slot.unset).toArray = ls at hl ⊢
  have hl : lv_has ls 6 [(0, .ref hq), (1, .int (iZ a)), (2, .int (iZ b)), (3, .int (iZ c0)), (4, .int (iZ d)), (5, .int (iZ t))] := hl
  have m1 := mul_ab (a := c0 - a) (b := c0 - a) (A := 8192) (B := 8192) (by omega) (by omega) (by omega) (by omega)
  have m2 := mul_ab (a := d - b) (b := d - b) (A := 8192) (B := 8192) (by omega) (by omega) (by omega) (by omega)
  have m3 := sq_nn (c0 - a)
  have m4 := sq_nn (d - b)
  have m5 := sq_le (a := t) (b := 200) (by omega) t2
  have m6 := sq_nn t
  have m7 : t * t * ((c0 - a) * (c0 - a) + (d - b) * (d - b)) ≤ 40000 * 134217728 := Int.mul_le_mul (by omega) (by omega) (by omega) (by decide)
  have m8 : 0 ≤ t * t * ((c0 - a) * (c0 - a) + (d - b) * (d - b)) := Int.mul_nonneg m6 (by omega)
  refine lv_aload_n hx hb d_Sk_init_0 rfl (lv_at hl 0 rfl) ?_
  refine W.objInit hx hb hown (hts _ t_305) (hts _ t_25) (hts _ t_26) rfl (by rw [hml]; exact hl.1) rfl d_Sk_init_1 (Nat.le_of_ble_eq_true rfl) (Nat.le_of_ble_eq_true rfl) ?_
  refine W.eq (g2 := F0 m 4 ls []) rfl ?_
  refine lv_aload_n hx hb d_Sk_init_4 rfl (lv_at hl 0 rfl) ?_
  refine lv_iload_n hx hb d_Sk_init_5 rfl (lv_at hl 1 rfl) ?_
  refine va_putF (D := (dC, dI)) (ci := 5) (v := .int (iZ a)) (ty := .int) (C := R_Sk) (T := T_Sk) (N := 11) hx hb hts wi_Sk ty_Sk ty_Sk_ok nd_Sk hown hK hP hD hS 0 rfl rfl 0 (by decide) (hts _ t_311) (fun _ h9 => h9) rfl hin rfl (by decide +kernel) rfl rfl (Nat.le_of_ble_eq_true rfl) d_Sk_init_6 (fun H locs hP hD hS => ?_)
  have hP : va_P (dC, dI) vwCl [(hq, .inr (5, [.int (iZ a), .int (iZ 0), .int (iZ 0), .int (iZ 0), .int (iZ 0), .long (lZ 0), .long (lZ 0), .long (lZ 0), .long (lZ 0), .int (iZ 0), .int (iZ 0)]))] H := hP
  have hD : va_D A [(hq, .inr (5, [.int (iZ a), .int (iZ 0), .int (iZ 0), .int (iZ 0), .int (iZ 0), .long (lZ 0), .long (lZ 0), .long (lZ 0), .long (lZ 0), .int (iZ 0), .int (iZ 0)]))] := hD
  refine lv_aload_n hx hb d_Sk_init_9 rfl (lv_at hl 0 rfl) ?_
  refine lv_iload_n hx hb d_Sk_init_10 rfl (lv_at hl 2 rfl) ?_
  refine va_putF (D := (dC, dI)) (ci := 5) (v := .int (iZ b)) (ty := .int) (C := R_Sk) (T := T_Sk) (N := 11) hx hb hts wi_Sk ty_Sk ty_Sk_ok nd_Sk hown hK hP hD hS 0 rfl rfl 1 (by decide) (hts _ t_312) (fun _ h9 => h9) rfl hin rfl (by decide +kernel) rfl rfl (Nat.le_of_ble_eq_true rfl) d_Sk_init_11 (fun H locs hP hD hS => ?_)
  have hP : va_P (dC, dI) vwCl [(hq, .inr (5, [.int (iZ a), .int (iZ b), .int (iZ 0), .int (iZ 0), .int (iZ 0), .long (lZ 0), .long (lZ 0), .long (lZ 0), .long (lZ 0), .int (iZ 0), .int (iZ 0)]))] H := hP
  have hD : va_D A [(hq, .inr (5, [.int (iZ a), .int (iZ b), .int (iZ 0), .int (iZ 0), .int (iZ 0), .long (lZ 0), .long (lZ 0), .long (lZ 0), .long (lZ 0), .int (iZ 0), .int (iZ 0)]))] := hD
  refine lv_aload_n hx hb d_Sk_init_14 rfl (lv_at hl 0 rfl) ?_
  refine lv_iload_n hx hb d_Sk_init_15 rfl (lv_at hl 3 rfl) ?_
  refine va_putF (D := (dC, dI)) (ci := 5) (v := .int (iZ c0)) (ty := .int) (C := R_Sk) (T := T_Sk) (N := 11) hx hb hts wi_Sk ty_Sk ty_Sk_ok nd_Sk hown hK hP hD hS 0 rfl rfl 2 (by decide) (hts _ t_313) (fun _ h9 => h9) rfl hin rfl (by decide +kernel) rfl rfl (Nat.le_of_ble_eq_true rfl) d_Sk_init_16 (fun H locs hP hD hS => ?_)
  have hP : va_P (dC, dI) vwCl [(hq, .inr (5, [.int (iZ a), .int (iZ b), .int (iZ c0), .int (iZ 0), .int (iZ 0), .long (lZ 0), .long (lZ 0), .long (lZ 0), .long (lZ 0), .int (iZ 0), .int (iZ 0)]))] H := hP
  have hD : va_D A [(hq, .inr (5, [.int (iZ a), .int (iZ b), .int (iZ c0), .int (iZ 0), .int (iZ 0), .long (lZ 0), .long (lZ 0), .long (lZ 0), .long (lZ 0), .int (iZ 0), .int (iZ 0)]))] := hD
  refine lv_aload_n hx hb d_Sk_init_19 rfl (lv_at hl 0 rfl) ?_
  refine lv_iload hx hb d_Sk_init_20 (lv_at hl 4 rfl) ?_
  refine va_putF (D := (dC, dI)) (ci := 5) (v := .int (iZ d)) (ty := .int) (C := R_Sk) (T := T_Sk) (N := 11) hx hb hts wi_Sk ty_Sk ty_Sk_ok nd_Sk hown hK hP hD hS 0 rfl rfl 3 (by decide) (hts _ t_314) (fun _ h9 => h9) rfl hin rfl (by decide +kernel) rfl rfl (Nat.le_of_ble_eq_true rfl) d_Sk_init_22 (fun H locs hP hD hS => ?_)
  have hP : va_P (dC, dI) vwCl [(hq, .inr (5, [.int (iZ a), .int (iZ b), .int (iZ c0), .int (iZ d), .int (iZ 0), .long (lZ 0), .long (lZ 0), .long (lZ 0), .long (lZ 0), .int (iZ 0), .int (iZ 0)]))] H := hP
  have hD : va_D A [(hq, .inr (5, [.int (iZ a), .int (iZ b), .int (iZ c0), .int (iZ d), .int (iZ 0), .long (lZ 0), .long (lZ 0), .long (lZ 0), .long (lZ 0), .int (iZ 0), .int (iZ 0)]))] := hD
  refine lv_aload_n hx hb d_Sk_init_25 rfl (lv_at hl 0 rfl) ?_
  refine lv_iload hx hb d_Sk_init_26 (lv_at hl 5 rfl) ?_
  refine va_putF (D := (dC, dI)) (ci := 5) (v := .int (iZ t)) (ty := .int) (C := R_Sk) (T := T_Sk) (N := 11) hx hb hts wi_Sk ty_Sk ty_Sk_ok nd_Sk hown hK hP hD hS 0 rfl rfl 4 (by decide) (hts _ t_315) (fun _ h9 => h9) rfl hin rfl (by decide +kernel) rfl rfl (Nat.le_of_ble_eq_true rfl) d_Sk_init_28 (fun H locs hP hD hS => ?_)
  have hP : va_P (dC, dI) vwCl [(hq, .inr (5, [.int (iZ a), .int (iZ b), .int (iZ c0), .int (iZ d), .int (iZ t), .long (lZ 0), .long (lZ 0), .long (lZ 0), .long (lZ 0), .int (iZ 0), .int (iZ 0)]))] H := hP
  have hD : va_D A [(hq, .inr (5, [.int (iZ a), .int (iZ b), .int (iZ c0), .int (iZ d), .int (iZ t), .long (lZ 0), .long (lZ 0), .long (lZ 0), .long (lZ 0), .int (iZ 0), .int (iZ 0)]))] := hD
  refine lv_aload_n hx hb d_Sk_init_31 rfl (lv_at hl 0 rfl) ?_
  refine lv_iload_n hx hb d_Sk_init_32 rfl (lv_at hl 3 rfl) ?_
  refine lv_iload_n hx hb d_Sk_init_33 rfl (lv_at hl 1 rfl) ?_
  refine zi_sub hx hb d_Sk_init_34 ?_
  refine zi_l hx hb d_Sk_init_35 (by omega) (by omega) ?_
  refine va_putF (D := (dC, dI)) (ci := 5) (v := .long (lZ (c0 - a))) (ty := .long) (C := R_Sk) (T := T_Sk) (N := 11) hx hb hts wi_Sk ty_Sk ty_Sk_ok nd_Sk hown hK hP hD hS 0 rfl rfl 5 (by decide) (hts _ t_316) (fun _ h9 => h9) rfl hin rfl (by decide +kernel) rfl rfl (Nat.le_of_ble_eq_true rfl) d_Sk_init_36 (fun H locs hP hD hS => ?_)
  have hP : va_P (dC, dI) vwCl [(hq, .inr (5, [.int (iZ a), .int (iZ b), .int (iZ c0), .int (iZ d), .int (iZ t), .long (lZ (c0 - a)), .long (lZ 0), .long (lZ 0), .long (lZ 0), .int (iZ 0), .int (iZ 0)]))] H := hP
  have hD : va_D A [(hq, .inr (5, [.int (iZ a), .int (iZ b), .int (iZ c0), .int (iZ d), .int (iZ t), .long (lZ (c0 - a)), .long (lZ 0), .long (lZ 0), .long (lZ 0), .int (iZ 0), .int (iZ 0)]))] := hD
  refine lv_aload_n hx hb d_Sk_init_39 rfl (lv_at hl 0 rfl) ?_
  refine lv_iload hx hb d_Sk_init_40 (lv_at hl 4 rfl) ?_
  refine lv_iload_n hx hb d_Sk_init_42 rfl (lv_at hl 2 rfl) ?_
  refine zi_sub hx hb d_Sk_init_43 ?_
  refine zi_l hx hb d_Sk_init_44 (by omega) (by omega) ?_
  refine va_putF (D := (dC, dI)) (ci := 5) (v := .long (lZ (d - b))) (ty := .long) (C := R_Sk) (T := T_Sk) (N := 11) hx hb hts wi_Sk ty_Sk ty_Sk_ok nd_Sk hown hK hP hD hS 0 rfl rfl 6 (by decide) (hts _ t_317) (fun _ h9 => h9) rfl hin rfl (by decide +kernel) rfl rfl (Nat.le_of_ble_eq_true rfl) d_Sk_init_45 (fun H locs hP hD hS => ?_)
  have hP : va_P (dC, dI) vwCl [(hq, .inr (5, [.int (iZ a), .int (iZ b), .int (iZ c0), .int (iZ d), .int (iZ t), .long (lZ (c0 - a)), .long (lZ (d - b)), .long (lZ 0), .long (lZ 0), .int (iZ 0), .int (iZ 0)]))] H := hP
  have hD : va_D A [(hq, .inr (5, [.int (iZ a), .int (iZ b), .int (iZ c0), .int (iZ d), .int (iZ t), .long (lZ (c0 - a)), .long (lZ (d - b)), .long (lZ 0), .long (lZ 0), .int (iZ 0), .int (iZ 0)]))] := hD
  refine lv_aload_n hx hb d_Sk_init_48 rfl (lv_at hl 0 rfl) ?_
  refine lv_aload_n hx hb d_Sk_init_49 rfl (lv_at hl 0 rfl) ?_
  refine va_get (D := (dC, dI)) (ci := 5) (v := .long (lZ (c0 - a))) (C := R_Sk) (T := T_Sk) (N := 11) hx hb hts wi_Sk hown hK hP 0 rfl rfl 5 (by decide) (hts _ t_316) (fun _ h9 => h9) rfl d_Sk_init_50 ?_
  refine lv_aload_n hx hb d_Sk_init_53 rfl (lv_at hl 0 rfl) ?_
  refine va_get (D := (dC, dI)) (ci := 5) (v := .long (lZ (c0 - a))) (C := R_Sk) (T := T_Sk) (N := 11) hx hb hts wi_Sk hown hK hP 0 rfl rfl 5 (by decide) (hts _ t_316) (fun _ h9 => h9) rfl d_Sk_init_54 ?_
  refine zl_mul hx hb d_Sk_init_57 ?_
  refine lv_aload_n hx hb d_Sk_init_58 rfl (lv_at hl 0 rfl) ?_
  refine va_get (D := (dC, dI)) (ci := 5) (v := .long (lZ (d - b))) (C := R_Sk) (T := T_Sk) (N := 11) hx hb hts wi_Sk hown hK hP 0 rfl rfl 6 (by decide) (hts _ t_317) (fun _ h9 => h9) rfl d_Sk_init_59 ?_
  refine lv_aload_n hx hb d_Sk_init_62 rfl (lv_at hl 0 rfl) ?_
  refine va_get (D := (dC, dI)) (ci := 5) (v := .long (lZ (d - b))) (C := R_Sk) (T := T_Sk) (N := 11) hx hb hts wi_Sk hown hK hP 0 rfl rfl 6 (by decide) (hts _ t_317) (fun _ h9 => h9) rfl d_Sk_init_63 ?_
  refine zl_mul hx hb d_Sk_init_66 ?_
  refine zl_add hx hb d_Sk_init_67 ?_
  refine va_putF (D := (dC, dI)) (ci := 5) (v := .long (lZ (((c0 - a) * (c0 - a)) + ((d - b) * (d - b))))) (ty := .long) (C := R_Sk) (T := T_Sk) (N := 11) hx hb hts wi_Sk ty_Sk ty_Sk_ok nd_Sk hown hK hP hD hS 0 rfl rfl 7 (by decide) (hts _ t_318) (fun _ h9 => h9) rfl hin rfl (by decide +kernel) rfl rfl (Nat.le_of_ble_eq_true rfl) d_Sk_init_68 (fun H locs hP hD hS => ?_)
  have hP : va_P (dC, dI) vwCl [(hq, .inr (5, [.int (iZ a), .int (iZ b), .int (iZ c0), .int (iZ d), .int (iZ t), .long (lZ (c0 - a)), .long (lZ (d - b)), .long (lZ (((c0 - a) * (c0 - a)) + ((d - b) * (d - b)))), .long (lZ 0), .int (iZ 0), .int (iZ 0)]))] H := hP
  have hD : va_D A [(hq, .inr (5, [.int (iZ a), .int (iZ b), .int (iZ c0), .int (iZ d), .int (iZ t), .long (lZ (c0 - a)), .long (lZ (d - b)), .long (lZ (((c0 - a) * (c0 - a)) + ((d - b) * (d - b)))), .long (lZ 0), .int (iZ 0), .int (iZ 0)]))] := hD
  refine lv_aload_n hx hb d_Sk_init_71 rfl (lv_at hl 0 rfl) ?_
  refine lv_iload hx hb d_Sk_init_72 (lv_at hl 5 rfl) ?_
  refine zi_l hx hb d_Sk_init_74 (by omega) (by omega) ?_
  refine lv_iload hx hb d_Sk_init_75 (lv_at hl 5 rfl) ?_
  refine zi_l hx hb d_Sk_init_77 (by omega) (by omega) ?_
  refine zl_mul hx hb d_Sk_init_78 ?_
  refine lv_aload_n hx hb d_Sk_init_79 rfl (lv_at hl 0 rfl) ?_
  refine va_get (D := (dC, dI)) (ci := 5) (v := .long (lZ (((c0 - a) * (c0 - a)) + ((d - b) * (d - b))))) (C := R_Sk) (T := T_Sk) (N := 11) hx hb hts wi_Sk hown hK hP 0 rfl rfl 7 (by decide) (hts _ t_318) (fun _ h9 => h9) rfl d_Sk_init_80 ?_
  refine zl_mul hx hb d_Sk_init_83 ?_
  refine lv_ldc2 (v := lZ (4)) hx hb hown (hts _ t_306) d_Sk_init_84 ?_
  refine zl_div hx hb d_Sk_init_87 (by omega) (by omega) (by omega) (by omega) ?_
  refine vp_callSl (va_runS (As := [.long (lZ (((t * t) * (((c0 - a) * (c0 - a)) + ((d - b) * (d - b)))) / 4))]) (rest := [.ref hq]) ⟨hx, hb, hml, hown, hts⟩ (c_Reckoning_root l dC dI (((t * t) * (((c0 - a) * (c0 - a)) + ((d - b) * (d - b)))) / 4) (by first | omega | assumption) (by first | omega | assumption)) (va_cwS 1 hts (gS t_307 t_308 t_14 t_309) rfl rfl rfl (by decide +kernel) ⟨Nat.le_of_ble_eq_true rfl, Nat.le_of_ble_eq_true rfl⟩) ⟨zPr_blind, zPr_pre hP hK [] [] rfl rfl⟩ rfl rfl hl.1 rfl (lv_room (Nat.le_of_ble_eq_true rfl)) d_Sk_init_88 ⟨Nat.le_of_ble_eq_true rfl, Nat.le_of_ble_eq_true rfl⟩).run (fun r_88 q_88 => ?_)
  obtain ⟨k_88, rfl, q_88⟩ := q_88
  refine va_putF (D := (dC, dI)) (ci := 5) (v := .long (lZ k_88)) (ty := .long) (C := R_Sk) (T := T_Sk) (N := 11) hx hb hts wi_Sk ty_Sk ty_Sk_ok nd_Sk hown hK hP hD hS 0 rfl rfl 8 (by decide) (hts _ t_319) (fun _ h9 => h9) rfl hin rfl (by decide +kernel) rfl rfl (Nat.le_of_ble_eq_true rfl) d_Sk_init_91 (fun H locs hP hD hS => ?_)
  have hP : va_P (dC, dI) vwCl [(hq, .inr (5, [.int (iZ a), .int (iZ b), .int (iZ c0), .int (iZ d), .int (iZ t), .long (lZ (c0 - a)), .long (lZ (d - b)), .long (lZ (((c0 - a) * (c0 - a)) + ((d - b) * (d - b)))), .long (lZ k_88), .int (iZ 0), .int (iZ 0)]))] H := hP
  have hD : va_D A [(hq, .inr (5, [.int (iZ a), .int (iZ b), .int (iZ c0), .int (iZ d), .int (iZ t), .long (lZ (c0 - a)), .long (lZ (d - b)), .long (lZ (((c0 - a) * (c0 - a)) + ((d - b) * (d - b)))), .long (lZ k_88), .int (iZ 0), .int (iZ 0)]))] := hD
  exact W.vret hx hb hr (fun t ht hW => ⟨⟨k_88, rfl, q_88, by rw [ht]; exact hP, va_K.moved hW.alike hK, hD⟩, hS.F ht⟩) hS.2.2 d_Sk_init_94
theorem d_D_line_0 : decode c_yD_line 0 = .ok (.iload_n 1, 1) := by decide +kernel
theorem d_D_line_1 : decode c_yD_line 1 = .ok (.invokestatic 90, 3) := by decide +kernel
theorem d_D_line_4 : decode c_yD_line 4 = .ok (.ifCond .eq 37, 3) := by decide +kernel
theorem d_D_line_7 : decode c_yD_line 7 = .ok (.iload_n 2, 1) := by decide +kernel
theorem d_D_line_8 : decode c_yD_line 8 = .ok (.invokestatic 90, 3) := by decide +kernel
theorem d_D_line_11 : decode c_yD_line 11 = .ok (.ifCond .eq 30, 3) := by decide +kernel
theorem d_D_line_14 : decode c_yD_line 14 = .ok (.iload_n 3, 1) := by decide +kernel
theorem d_D_line_15 : decode c_yD_line 15 = .ok (.invokestatic 90, 3) := by decide +kernel
theorem d_D_line_18 : decode c_yD_line 18 = .ok (.ifCond .eq 23, 3) := by decide +kernel
theorem d_D_line_21 : decode c_yD_line 21 = .ok (.iload 4, 2) := by decide +kernel
theorem d_D_line_23 : decode c_yD_line 23 = .ok (.invokestatic 90, 3) := by decide +kernel
theorem d_D_line_26 : decode c_yD_line 26 = .ok (.ifCond .eq 15, 3) := by decide +kernel
theorem d_D_line_29 : decode c_yD_line 29 = .ok (.iload 5, 2) := by decide +kernel
theorem d_D_line_31 : decode c_yD_line 31 = .ok (.invokestatic 66, 3) := by decide +kernel
theorem d_D_line_34 : decode c_yD_line 34 = .ok (.ifCond .eq 7, 3) := by decide +kernel
theorem d_D_line_37 : decode c_yD_line 37 = .ok (.iconst 1, 1) := by decide +kernel
theorem d_D_line_38 : decode c_yD_line 38 = .ok (.goto 4, 3) := by decide +kernel
theorem d_D_line_41 : decode c_yD_line 41 = .ok (.iconst 0, 1) := by decide +kernel
theorem d_D_line_42 : decode c_yD_line 42 = .ok (.invokestatic 43, 3) := by decide +kernel
theorem d_D_line_45 : decode c_yD_line 45 = .ok (.new 93, 3) := by decide +kernel
theorem d_D_line_48 : decode c_yD_line 48 = .ok (.dup, 1) := by decide +kernel
theorem d_D_line_49 : decode c_yD_line 49 = .ok (.iload_n 1, 1) := by decide +kernel
theorem d_D_line_50 : decode c_yD_line 50 = .ok (.iload_n 2, 1) := by decide +kernel
theorem d_D_line_51 : decode c_yD_line 51 = .ok (.iload_n 3, 1) := by decide +kernel
theorem d_D_line_52 : decode c_yD_line 52 = .ok (.iload 4, 2) := by decide +kernel
theorem d_D_line_54 : decode c_yD_line 54 = .ok (.iload 5, 2) := by decide +kernel
theorem d_D_line_56 : decode c_yD_line 56 = .ok (.invokespecial 95, 3) := by decide +kernel
theorem d_D_line_59 : decode c_yD_line 59 = .ok (.astore 6, 2) := by decide +kernel
theorem d_D_line_61 : decode c_yD_line 61 = .ok (.iload_n 2, 1) := by decide +kernel
theorem d_D_line_62 : decode c_yD_line 62 = .ok (.iload 4, 2) := by decide +kernel
theorem d_D_line_64 : decode c_yD_line 64 = .ok (.invokestatic 79, 3) := by decide +kernel
theorem d_D_line_67 : decode c_yD_line 67 = .ok (.iload 5, 2) := by decide +kernel
theorem d_D_line_69 : decode c_yD_line 69 = .ok (.iconst 2, 1) := by decide +kernel
theorem d_D_line_70 : decode c_yD_line 70 = .ok (.idiv, 1) := by decide +kernel
theorem d_D_line_71 : decode c_yD_line 71 = .ok (.isub, 1) := by decide +kernel
theorem d_D_line_72 : decode c_yD_line 72 = .ok (.iconst 0, 1) := by decide +kernel
theorem d_D_line_73 : decode c_yD_line 73 = .ok (.invokestatic 70, 3) := by decide +kernel
theorem d_D_line_76 : decode c_yD_line 76 = .ok (.istore 7, 2) := by decide +kernel
theorem d_D_line_78 : decode c_yD_line 78 = .ok (.iload_n 2, 1) := by decide +kernel
theorem d_D_line_79 : decode c_yD_line 79 = .ok (.iload 4, 2) := by decide +kernel
theorem d_D_line_81 : decode c_yD_line 81 = .ok (.invokestatic 70, 3) := by decide +kernel
theorem d_D_line_84 : decode c_yD_line 84 = .ok (.iload 5, 2) := by decide +kernel
theorem d_D_line_86 : decode c_yD_line 86 = .ok (.iconst 2, 1) := by decide +kernel
theorem d_D_line_87 : decode c_yD_line 87 = .ok (.idiv, 1) := by decide +kernel
theorem d_D_line_88 : decode c_yD_line 88 = .ok (.iadd, 1) := by decide +kernel
theorem d_D_line_89 : decode c_yD_line 89 = .ok (.aload_n 0, 1) := by decide +kernel
theorem d_D_line_90 : decode c_yD_line 90 = .ok (.getfield 10, 3) := by decide +kernel
theorem d_D_line_93 : decode c_yD_line 93 = .ok (.getfield 76, 3) := by decide +kernel
theorem d_D_line_96 : decode c_yD_line 96 = .ok (.iconst 1, 1) := by decide +kernel
theorem d_D_line_97 : decode c_yD_line 97 = .ok (.isub, 1) := by decide +kernel
theorem d_D_line_98 : decode c_yD_line 98 = .ok (.invokestatic 79, 3) := by decide +kernel
theorem d_D_line_101 : decode c_yD_line 101 = .ok (.istore 8, 2) := by decide +kernel
theorem d_D_line_103 : decode c_yD_line 103 = .ok (.iconst 0, 1) := by decide +kernel
theorem d_D_line_104 : decode c_yD_line 104 = .ok (.istore 9, 2) := by decide +kernel
theorem d_D_line_106 : decode c_yD_line 106 = .ok (.iload 7, 2) := by decide +kernel
theorem d_D_line_108 : decode c_yD_line 108 = .ok (.istore 10, 2) := by decide +kernel
theorem d_D_line_110 : decode c_yD_line 110 = .ok (.iload 10, 2) := by decide +kernel
theorem d_D_line_112 : decode c_yD_line 112 = .ok (.iload 8, 2) := by decide +kernel
theorem d_D_line_114 : decode c_yD_line 114 = .ok (.if_icmp .gt 42, 3) := by decide +kernel
theorem d_D_line_117 : decode c_yD_line 117 = .ok (.aload 6, 2) := by decide +kernel
theorem d_D_line_119 : decode c_yD_line 119 = .ok (.iload 10, 2) := by decide +kernel
theorem d_D_line_121 : decode c_yD_line 121 = .ok (.invokevirtual 98, 3) := by decide +kernel
theorem d_D_line_124 : decode c_yD_line 124 = .ok (.iload 9, 2) := by decide +kernel
theorem d_D_line_126 : decode c_yD_line 126 = .ok (.aload_n 0, 1) := by decide +kernel
theorem d_D_line_127 : decode c_yD_line 127 = .ok (.getfield 10, 3) := by decide +kernel
theorem d_D_line_130 : decode c_yD_line 130 = .ok (.aload 6, 2) := by decide +kernel
theorem d_D_line_132 : decode c_yD_line 132 = .ok (.getfield 102, 3) := by decide +kernel
theorem d_D_line_135 : decode c_yD_line 135 = .ok (.iload 10, 2) := by decide +kernel
theorem d_D_line_137 : decode c_yD_line 137 = .ok (.aload 6, 2) := by decide +kernel
theorem d_D_line_139 : decode c_yD_line 139 = .ok (.getfield 105, 3) := by decide +kernel
theorem d_D_line_142 : decode c_yD_line 142 = .ok (.iload 10, 2) := by decide +kernel
theorem d_D_line_144 : decode c_yD_line 144 = .ok (.invokevirtual 86, 3) := by decide +kernel
theorem d_D_line_147 : decode c_yD_line 147 = .ok (.iadd, 1) := by decide +kernel
theorem d_D_line_148 : decode c_yD_line 148 = .ok (.istore 9, 2) := by decide +kernel
theorem d_D_line_150 : decode c_yD_line 150 = .ok (.iinc 10 1, 3) := by decide +kernel
theorem d_D_line_153 : decode c_yD_line 153 = .ok (.goto (-43), 3) := by decide +kernel
theorem d_D_line_156 : decode c_yD_line 156 = .ok (.iload 9, 2) := by decide +kernel
theorem d_D_line_158 : decode c_yD_line 158 = .ok (.ireturn, 1) := by decide +kernel
set_option maxHeartbeats 4000000 in
set_option maxRecDepth 100000 in
theorem c_DotSheet_line (l : Launch) (hnt : l.stackTraces = false) (dC : Nat → ClassId) (dI : Nat → Nat → Nat) (sa : Nat → Nat) (hx_ hst hd hfa hp hw hs hk : Nat) (cL : ClassId) (w h mn : Int) (G : Int → Int64) (pic : Int → Int → Bool) (a b c0 d t : Int) (sz : Nat) (w1 : 1 ≤ w) (w2 : w ≤ 1024) (h1 : 1 ≤ h) (h2 : h ≤ 1024) (mn1 : 0 ≤ mn) (mn2 : mn ≤ 2) (hR : Rep G pic) (a1 : -2147483648 ≤ a) (b1 : -2147483648 ≤ b) (c01 : -2147483648 ≤ c0) (d1 : -2147483648 ≤ d) (t1 : -2147483648 ≤ t) (a2 : a ≤ 2147483647) (b2 : b ≤ 2147483647) (c02 : c0 ≤ 2147483647) (d2 : d ≤ 2147483647) (t2 : t ≤ 2147483647) : vx_Met l y_D_line w_D_line ({ frames := 7, cells := 2, slots := 17, locals := 120 }) (va_Pc [.ref hx_, .int (iZ a), .int (iZ b), .int (iZ c0), .int (iZ d), .int (iZ t)] (zPx (dC, dI) vwCl [(hx_, .inr (4, [.ref hp, .ref hst, .ref hd, .ref hfa])), (hp, .inr (2, [.int (iZ w), .int (iZ h), .int (iZ mn), .ref hw, .ref hs, .ref hk])), (hw, .inl (cL, 16384, .inr (.inl (aL G))))] [(cL, .long)] sz sa)) (va_Qi (fun (r : Int32) (u : Int → Int64) => r = iZ (cnt w h (lnD a b c0 d t)) ∧ (-4096 ≤ a ∧ a ≤ 4096 ∧ -4096 ≤ b ∧ b ≤ 4096 ∧ -4096 ≤ c0 ∧ c0 ≤ 4096 ∧ -4096 ≤ d ∧ d ≤ 4096 ∧ 1 ≤ t ∧ t ≤ 200) ∧ Rep u (drw mn (fun px py => onB w h px py && lnD a b c0 d t px py) pic)) (fun u => zB (dC, dI) vwCl [(cL, .long)] (va_A [(hx_, .inr (4, [.ref hp, .ref hst, .ref hd, .ref hfa])), (hp, .inr (2, [.int (iZ w), .int (iZ h), .int (iZ mn), .ref hw, .ref hs, .ref hk])), (hw, .inl (cL, 16384, .inr (.inl (aL G))))] sz) [(hx_, .inr (4, [.ref hp, .ref hst, .ref hd, .ref hfa])), (hp, .inr (2, [.int (iZ w), .int (iZ h), .int (iZ mn), .ref hw, .ref hs, .ref hk])), (hw, .inl (cL, 16384, .inr (.inl (aL u))))]) (va_A [(hx_, .inr (4, [.ref hp, .ref hst, .ref hd, .ref hfa])), (hp, .inr (2, [.int (iZ w), .int (iZ h), .int (iZ mn), .ref hw, .ref hs, .ref hk])), (hw, .inl (cL, 16384, .inr (.inl (aL G))))] sz)) (zX (fun E => E = "java/lang/IllegalArgumentException" ∧ ¬ (-4096 ≤ a ∧ a ≤ 4096 ∧ -4096 ≤ b ∧ b ≤ 4096 ∧ -4096 ≤ c0 ∧ c0 ≤ 4096 ∧ -4096 ≤ d ∧ d ≤ 4096 ∧ 1 ≤ t ∧ t ≤ 200)) (dC, dI) vwCl [(cL, .long)] (va_A [(hx_, .inr (4, [.ref hp, .ref hst, .ref hd, .ref hfa])), (hp, .inr (2, [.int (iZ w), .int (iZ h), .int (iZ mn), .ref hw, .ref hs, .ref hk])), (hw, .inl (cL, 16384, .inr (.inl (aL G))))] sz) [(hx_, .inr (4, [.ref hp, .ref hst, .ref hd, .ref hfa])), (hp, .inr (2, [.int (iZ w), .int (iZ h), .int (iZ mn), .ref hw, .ref hs, .ref hk])), (hw, .inl (cL, 16384, .inr (.inl (aL G))))]) 2 17 (va_A [(hx_, .inr (4, [.ref hp, .ref hst, .ref hd, .ref hfa])), (hp, .inr (2, [.int (iZ w), .int (iZ h), .int (iZ mn), .ref hw, .ref hs, .ref hk])), (hw, .inl (cL, 16384, .inr (.inl (aL G))))] sz) := by
  refine vx_ofW (cc := c_yD_line) (maxL := 11) (ret := (some .int)) (by decide) rfl ?_
  intro p e s m args below meth c s₁ B hml noEx hv
  obtain ⟨rfl, hsz, hP, hK, hD0, hXK⟩ := hv
  have hx := B.exec
  have hb := B.bytes
  have hr := B.returns
  have hts0 := atoms_spec (ws := w_D_line) B.pre
  have hts : ∀ w ∈ gT, w.before _ s = true := fun w h => hts0 w (List.mem_cons_of_mem _ h)
  have hown : s.vm.findClass R_D = some m.cls := findClass_of_methodNamed B.named
  have hlocks := B.notSynchronized
  subst hsz
  have hD := hD0.self (sz := s.heap.size)
  generalize hAe : va_A [(hx_, .inr (4, [.ref hp, .ref hst, .ref hd, .ref hfa])), (hp, .inr (2, [.int (iZ w), .int (iZ h), .int (iZ mn), .ref hw, .ref hs, .ref hk])), (hw, .inl (cL, 16384, .inr (.inl (aL G))))] s.heap.size = A at hD hXK ⊢
  have hA : ∀ q : Nat, s.heap.size ≤ q → A q := fun q h => by rw [← hAe]; exact Or.inr h
  obtain ⟨H, hH⟩ : ∃ H, s.heap = H := ⟨_, rfl⟩
  have hS : va_S A s.heap H [] := by rw [← hH]; exact va_S.rf
  rw [hH] at hP
  rw [hH]
  have hl := lv_entry ([.ref hx_, .int (iZ a), .int (iZ b), .int (iZ c0), .int (iZ d), .int (iZ t)]) (n := 11) (Nat.le_of_ble_eq_true rfl)
  rw [lg_entry_eq]
  generalize (lg_sl ([.ref hx_, .int (iZ a), .int (iZ b), .int (iZ c0), .int (iZ d), .int (iZ t)]) ++ List.replicate (11 - (lg_sl ([.ref hx_, .int (iZ a), .int (iZ b), .int (iZ c0), .int (iZ d), .int (iZ t)])).length) Slot.unset).toArray = ls at hl ⊢
  have hl : lv_has ls 11 [(0, .ref hx_), (1, .int (iZ a)), (2, .int (iZ b)), (3, .int (iZ c0)), (4, .int (iZ d)), (5, .int (iZ t))] := hl
  refine lv_iload_n hx hb d_D_line_0 rfl (lv_at hl 1 rfl) ?_
  refine vp_callSi (va_runS (As := [.int (iZ a)]) (rest := []) ⟨hx, hb, hml, hown, hts⟩ (c_DotSheet_isPlace l dC dI a (by first | omega | assumption) (by first | omega | assumption)) (va_cwS 1 hts (gS t_259 t_260 t_1 t_261) rfl rfl rfl (by decide +kernel) ⟨Nat.le_of_ble_eq_true rfl, Nat.le_of_ble_eq_true rfl⟩) ⟨zPr_blind, zPr_pre hP hK [] [] rfl rfl⟩ rfl rfl hl.1 rfl (lv_room (Nat.le_of_ble_eq_true rfl)) d_D_line_1 ⟨Nat.le_of_ble_eq_true rfl, Nat.le_of_ble_eq_true rfl⟩).run (fun r_1 q_1 => ?_)
  obtain rfl := q_1
  refine zb_if_eq (tgt := 41) hx hb d_D_line_4 (by decide) (fun c_4 => ?_) (fun c_4 => ?_)
  · have c_4 := of_decide_eq_false c_4
    refine lv_iconst (v := iZ (0)) hx hb d_D_line_41 rfl ?_
    refine zx_v (w1 := fun (u_42 : Unit) => []) (wr := [(hx_, .inr (4, [.ref hp, .ref hst, .ref hd, .ref hfa])), (hp, .inr (2, [.int (iZ w), .int (iZ h), .int (iZ mn), .ref hw, .ref hs, .ref hk])), (hw, .inl (cL, 16384, .inr (.inl (aL G))))]) (vx_runS (As := [.int (bI false)]) (rest := []) ⟨hx, hb, hml, hown, hts⟩ (c_DotSheet_demand l hnt dC dI sa false H.size ) (va_cwS 1 hts (gS t_154 t_155 t_1 t_156) rfl rfl rfl (by decide +kernel) ⟨Nat.le_of_ble_eq_true rfl, Nat.le_of_ble_eq_true rfl⟩) ⟨zPx_blind, zPx_pre hP hD hK hXK hS hA [] [] rfl rfl rfl rfl⟩ rfl rfl hl.1 rfl (lv_room (Nat.le_of_ble_eq_true rfl)) d_D_line_42 ⟨Nat.le_of_ble_eq_true rfl, Nat.le_of_ble_eq_true rfl⟩) hP hD hS hA [] [0, 1, 2] rfl rfl rfl (by decide) (fun E_ ce_ q9_ H locs x_42 hP hD hS hce hcv hcl => ?_) (fun u_42 H locs q_42 hP hD hS => ?_)
    · have hP : va_P (dC, dI) vwCl [(hx_, .inr (4, [.ref hp, .ref hst, .ref hd, .ref hfa])), (hp, .inr (2, [.int (iZ w), .int (iZ h), .int (iZ mn), .ref hw, .ref hs, .ref hk])), (hw, .inl (cL, 16384, .inr (.inl (aL G))))] H := hP
      have hD : va_D A [(hx_, .inr (4, [.ref hp, .ref hst, .ref hd, .ref hfa])), (hp, .inr (2, [.int (iZ w), .int (iZ h), .int (iZ mn), .ref hw, .ref hs, .ref hk])), (hw, .inl (cL, 16384, .inr (.inl (aL G))))] := hD
      exact vx_out (fun x9 h9 => (noEx x9 h9).elim) hlocks hce hcv hcl (fun t ht ha => ⟨(), trivial, ⟨⟨x_42.1, by omega⟩, by rw [ht]; exact hP, va_K.moved ha hK, hD⟩, hS.F ht⟩) hS.2.2 (Nat.le_of_ble_eq_true rfl) (Nat.le_of_ble_eq_true rfl)
    exact absurd q_42 (by decide)
  · have c_4 := of_decide_eq_true c_4
    refine lv_iload_n hx hb d_D_line_7 rfl (lv_at hl 2 rfl) ?_
    refine vp_callSi (va_runS (As := [.int (iZ b)]) (rest := []) ⟨hx, hb, hml, hown, hts⟩ (c_DotSheet_isPlace l dC dI b (by first | omega | assumption) (by first | omega | assumption)) (va_cwS 1 hts (gS t_259 t_260 t_1 t_261) rfl rfl rfl (by decide +kernel) ⟨Nat.le_of_ble_eq_true rfl, Nat.le_of_ble_eq_true rfl⟩) ⟨zPr_blind, zPr_pre hP hK [] [] rfl rfl⟩ rfl rfl hl.1 rfl (lv_room (Nat.le_of_ble_eq_true rfl)) d_D_line_8 ⟨Nat.le_of_ble_eq_true rfl, Nat.le_of_ble_eq_true rfl⟩).run (fun r_8 q_8 => ?_)
    obtain rfl := q_8
    refine zb_if_eq (tgt := 41) hx hb d_D_line_11 (by decide) (fun c_11 => ?_) (fun c_11 => ?_)
    · have c_11 := of_decide_eq_false c_11
      refine lv_iconst (v := iZ (0)) hx hb d_D_line_41 rfl ?_
      refine zx_v (w1 := fun (u_42 : Unit) => []) (wr := [(hx_, .inr (4, [.ref hp, .ref hst, .ref hd, .ref hfa])), (hp, .inr (2, [.int (iZ w), .int (iZ h), .int (iZ mn), .ref hw, .ref hs, .ref hk])), (hw, .inl (cL, 16384, .inr (.inl (aL G))))]) (vx_runS (As := [.int (bI false)]) (rest := []) ⟨hx, hb, hml, hown, hts⟩ (c_DotSheet_demand l hnt dC dI sa false H.size ) (va_cwS 1 hts (gS t_154 t_155 t_1 t_156) rfl rfl rfl (by decide +kernel) ⟨Nat.le_of_ble_eq_true rfl, Nat.le_of_ble_eq_true rfl⟩) ⟨zPx_blind, zPx_pre hP hD hK hXK hS hA [] [] rfl rfl rfl rfl⟩ rfl rfl hl.1 rfl (lv_room (Nat.le_of_ble_eq_true rfl)) d_D_line_42 ⟨Nat.le_of_ble_eq_true rfl, Nat.le_of_ble_eq_true rfl⟩) hP hD hS hA [] [0, 1, 2] rfl rfl rfl (by decide) (fun E_ ce_ q9_ H locs x_42 hP hD hS hce hcv hcl => ?_) (fun u_42 H locs q_42 hP hD hS => ?_)
      · have hP : va_P (dC, dI) vwCl [(hx_, .inr (4, [.ref hp, .ref hst, .ref hd, .ref hfa])), (hp, .inr (2, [.int (iZ w), .int (iZ h), .int (iZ mn), .ref hw, .ref hs, .ref hk])), (hw, .inl (cL, 16384, .inr (.inl (aL G))))] H := hP
        have hD : va_D A [(hx_, .inr (4, [.ref hp, .ref hst, .ref hd, .ref hfa])), (hp, .inr (2, [.int (iZ w), .int (iZ h), .int (iZ mn), .ref hw, .ref hs, .ref hk])), (hw, .inl (cL, 16384, .inr (.inl (aL G))))] := hD
        exact vx_out (fun x9 h9 => (noEx x9 h9).elim) hlocks hce hcv hcl (fun t ht ha => ⟨(), trivial, ⟨⟨x_42.1, by omega⟩, by rw [ht]; exact hP, va_K.moved ha hK, hD⟩, hS.F ht⟩) hS.2.2 (Nat.le_of_ble_eq_true rfl) (Nat.le_of_ble_eq_true rfl)
      exact absurd q_42 (by decide)
    · have c_11 := of_decide_eq_true c_11
      refine lv_iload_n hx hb d_D_line_14 rfl (lv_at hl 3 rfl) ?_
      refine vp_callSi (va_runS (As := [.int (iZ c0)]) (rest := []) ⟨hx, hb, hml, hown, hts⟩ (c_DotSheet_isPlace l dC dI c0 (by first | omega | assumption) (by first | omega | assumption)) (va_cwS 1 hts (gS t_259 t_260 t_1 t_261) rfl rfl rfl (by decide +kernel) ⟨Nat.le_of_ble_eq_true rfl, Nat.le_of_ble_eq_true rfl⟩) ⟨zPr_blind, zPr_pre hP hK [] [] rfl rfl⟩ rfl rfl hl.1 rfl (lv_room (Nat.le_of_ble_eq_true rfl)) d_D_line_15 ⟨Nat.le_of_ble_eq_true rfl, Nat.le_of_ble_eq_true rfl⟩).run (fun r_15 q_15 => ?_)
      obtain rfl := q_15
      refine zb_if_eq (tgt := 41) hx hb d_D_line_18 (by decide) (fun c_18 => ?_) (fun c_18 => ?_)
      · have c_18 := of_decide_eq_false c_18
        refine lv_iconst (v := iZ (0)) hx hb d_D_line_41 rfl ?_
        refine zx_v (w1 := fun (u_42 : Unit) => []) (wr := [(hx_, .inr (4, [.ref hp, .ref hst, .ref hd, .ref hfa])), (hp, .inr (2, [.int (iZ w), .int (iZ h), .int (iZ mn), .ref hw, .ref hs, .ref hk])), (hw, .inl (cL, 16384, .inr (.inl (aL G))))]) (vx_runS (As := [.int (bI false)]) (rest := []) ⟨hx, hb, hml, hown, hts⟩ (c_DotSheet_demand l hnt dC dI sa false H.size ) (va_cwS 1 hts (gS t_154 t_155 t_1 t_156) rfl rfl rfl (by decide +kernel) ⟨Nat.le_of_ble_eq_true rfl, Nat.le_of_ble_eq_true rfl⟩) ⟨zPx_blind, zPx_pre hP hD hK hXK hS hA [] [] rfl rfl rfl rfl⟩ rfl rfl hl.1 rfl (lv_room (Nat.le_of_ble_eq_true rfl)) d_D_line_42 ⟨Nat.le_of_ble_eq_true rfl, Nat.le_of_ble_eq_true rfl⟩) hP hD hS hA [] [0, 1, 2] rfl rfl rfl (by decide) (fun E_ ce_ q9_ H locs x_42 hP hD hS hce hcv hcl => ?_) (fun u_42 H locs q_42 hP hD hS => ?_)
        · have hP : va_P (dC, dI) vwCl [(hx_, .inr (4, [.ref hp, .ref hst, .ref hd, .ref hfa])), (hp, .inr (2, [.int (iZ w), .int (iZ h), .int (iZ mn), .ref hw, .ref hs, .ref hk])), (hw, .inl (cL, 16384, .inr (.inl (aL G))))] H := hP
          have hD : va_D A [(hx_, .inr (4, [.ref hp, .ref hst, .ref hd, .ref hfa])), (hp, .inr (2, [.int (iZ w), .int (iZ h), .int (iZ mn), .ref hw, .ref hs, .ref hk])), (hw, .inl (cL, 16384, .inr (.inl (aL G))))] := hD
          exact vx_out (fun x9 h9 => (noEx x9 h9).elim) hlocks hce hcv hcl (fun t ht ha => ⟨(), trivial, ⟨⟨x_42.1, by omega⟩, by rw [ht]; exact hP, va_K.moved ha hK, hD⟩, hS.F ht⟩) hS.2.2 (Nat.le_of_ble_eq_true rfl) (Nat.le_of_ble_eq_true rfl)
        exact absurd q_42 (by decide)
      · have c_18 := of_decide_eq_true c_18
        refine lv_iload hx hb d_D_line_21 (lv_at hl 4 rfl) ?_
        refine vp_callSi (va_runS (As := [.int (iZ d)]) (rest := []) ⟨hx, hb, hml, hown, hts⟩ (c_DotSheet_isPlace l dC dI d (by first | omega | assumption) (by first | omega | assumption)) (va_cwS 1 hts (gS t_259 t_260 t_1 t_261) rfl rfl rfl (by decide +kernel) ⟨Nat.le_of_ble_eq_true rfl, Nat.le_of_ble_eq_true rfl⟩) ⟨zPr_blind, zPr_pre hP hK [] [] rfl rfl⟩ rfl rfl hl.1 rfl (lv_room (Nat.le_of_ble_eq_true rfl)) d_D_line_23 ⟨Nat.le_of_ble_eq_true rfl, Nat.le_of_ble_eq_true rfl⟩).run (fun r_23 q_23 => ?_)
        obtain rfl := q_23
        refine zb_if_eq (tgt := 41) hx hb d_D_line_26 (by decide) (fun c_26 => ?_) (fun c_26 => ?_)
        · have c_26 := of_decide_eq_false c_26
          refine lv_iconst (v := iZ (0)) hx hb d_D_line_41 rfl ?_
          refine zx_v (w1 := fun (u_42 : Unit) => []) (wr := [(hx_, .inr (4, [.ref hp, .ref hst, .ref hd, .ref hfa])), (hp, .inr (2, [.int (iZ w), .int (iZ h), .int (iZ mn), .ref hw, .ref hs, .ref hk])), (hw, .inl (cL, 16384, .inr (.inl (aL G))))]) (vx_runS (As := [.int (bI false)]) (rest := []) ⟨hx, hb, hml, hown, hts⟩ (c_DotSheet_demand l hnt dC dI sa false H.size ) (va_cwS 1 hts (gS t_154 t_155 t_1 t_156) rfl rfl rfl (by decide +kernel) ⟨Nat.le_of_ble_eq_true rfl, Nat.le_of_ble_eq_true rfl⟩) ⟨zPx_blind, zPx_pre hP hD hK hXK hS hA [] [] rfl rfl rfl rfl⟩ rfl rfl hl.1 rfl (lv_room (Nat.le_of_ble_eq_true rfl)) d_D_line_42 ⟨Nat.le_of_ble_eq_true rfl, Nat.le_of_ble_eq_true rfl⟩) hP hD hS hA [] [0, 1, 2] rfl rfl rfl (by decide) (fun E_ ce_ q9_ H locs x_42 hP hD hS hce hcv hcl => ?_) (fun u_42 H locs q_42 hP hD hS => ?_)
          · have hP : va_P (dC, dI) vwCl [(hx_, .inr (4, [.ref hp, .ref hst, .ref hd, .ref hfa])), (hp, .inr (2, [.int (iZ w), .int (iZ h), .int (iZ mn), .ref hw, .ref hs, .ref hk])), (hw, .inl (cL, 16384, .inr (.inl (aL G))))] H := hP
            have hD : va_D A [(hx_, .inr (4, [.ref hp, .ref hst, .ref hd, .ref hfa])), (hp, .inr (2, [.int (iZ w), .int (iZ h), .int (iZ mn), .ref hw, .ref hs, .ref hk])), (hw, .inl (cL, 16384, .inr (.inl (aL G))))] := hD
            exact vx_out (fun x9 h9 => (noEx x9 h9).elim) hlocks hce hcv hcl (fun t ht ha => ⟨(), trivial, ⟨⟨x_42.1, by omega⟩, by rw [ht]; exact hP, va_K.moved ha hK, hD⟩, hS.F ht⟩) hS.2.2 (Nat.le_of_ble_eq_true rfl) (Nat.le_of_ble_eq_true rfl)
          exact absurd q_42 (by decide)
        · have c_26 := of_decide_eq_true c_26
          refine lv_iload hx hb d_D_line_29 (lv_at hl 5 rfl) ?_
          refine vp_callSi (va_runS (As := [.int (iZ t)]) (rest := []) ⟨hx, hb, hml, hown, hts⟩ (c_DotSheet_isThickness l dC dI t (by first | omega | assumption) (by first | omega | assumption)) (va_cwS 1 hts (gS t_265 t_266 t_1 t_267) rfl rfl rfl (by decide +kernel) ⟨Nat.le_of_ble_eq_true rfl, Nat.le_of_ble_eq_true rfl⟩) ⟨zPr_blind, zPr_pre hP hK [] [] rfl rfl⟩ rfl rfl hl.1 rfl (lv_room (Nat.le_of_ble_eq_true rfl)) d_D_line_31 ⟨Nat.le_of_ble_eq_true rfl, Nat.le_of_ble_eq_true rfl⟩).run (fun r_31 q_31 => ?_)
          obtain rfl := q_31
          refine zb_if_eq (tgt := 41) hx hb d_D_line_34 (by decide) (fun c_34 => ?_) (fun c_34 => ?_)
          · have c_34 := of_decide_eq_false c_34
            refine lv_iconst (v := iZ (0)) hx hb d_D_line_41 rfl ?_
            refine zx_v (w1 := fun (u_42 : Unit) => []) (wr := [(hx_, .inr (4, [.ref hp, .ref hst, .ref hd, .ref hfa])), (hp, .inr (2, [.int (iZ w), .int (iZ h), .int (iZ mn), .ref hw, .ref hs, .ref hk])), (hw, .inl (cL, 16384, .inr (.inl (aL G))))]) (vx_runS (As := [.int (bI false)]) (rest := []) ⟨hx, hb, hml, hown, hts⟩ (c_DotSheet_demand l hnt dC dI sa false H.size ) (va_cwS 1 hts (gS t_154 t_155 t_1 t_156) rfl rfl rfl (by decide +kernel) ⟨Nat.le_of_ble_eq_true rfl, Nat.le_of_ble_eq_true rfl⟩) ⟨zPx_blind, zPx_pre hP hD hK hXK hS hA [] [] rfl rfl rfl rfl⟩ rfl rfl hl.1 rfl (lv_room (Nat.le_of_ble_eq_true rfl)) d_D_line_42 ⟨Nat.le_of_ble_eq_true rfl, Nat.le_of_ble_eq_true rfl⟩) hP hD hS hA [] [0, 1, 2] rfl rfl rfl (by decide) (fun E_ ce_ q9_ H locs x_42 hP hD hS hce hcv hcl => ?_) (fun u_42 H locs q_42 hP hD hS => ?_)
            · have hP : va_P (dC, dI) vwCl [(hx_, .inr (4, [.ref hp, .ref hst, .ref hd, .ref hfa])), (hp, .inr (2, [.int (iZ w), .int (iZ h), .int (iZ mn), .ref hw, .ref hs, .ref hk])), (hw, .inl (cL, 16384, .inr (.inl (aL G))))] H := hP
              have hD : va_D A [(hx_, .inr (4, [.ref hp, .ref hst, .ref hd, .ref hfa])), (hp, .inr (2, [.int (iZ w), .int (iZ h), .int (iZ mn), .ref hw, .ref hs, .ref hk])), (hw, .inl (cL, 16384, .inr (.inl (aL G))))] := hD
              exact vx_out (fun x9 h9 => (noEx x9 h9).elim) hlocks hce hcv hcl (fun t ht ha => ⟨(), trivial, ⟨⟨x_42.1, by omega⟩, by rw [ht]; exact hP, va_K.moved ha hK, hD⟩, hS.F ht⟩) hS.2.2 (Nat.le_of_ble_eq_true rfl) (Nat.le_of_ble_eq_true rfl)
            exact absurd q_42 (by decide)
          · have c_34 := of_decide_eq_true c_34
            refine lv_iconst (v := iZ (1)) hx hb d_D_line_37 rfl ?_
            refine lv_goto (tgt := 42) hx hb d_D_line_38 (by decide) ?_
            refine zx_v (w1 := fun (u_42 : Unit) => []) (wr := [(hx_, .inr (4, [.ref hp, .ref hst, .ref hd, .ref hfa])), (hp, .inr (2, [.int (iZ w), .int (iZ h), .int (iZ mn), .ref hw, .ref hs, .ref hk])), (hw, .inl (cL, 16384, .inr (.inl (aL G))))]) (vx_runS (As := [.int (bI true)]) (rest := []) ⟨hx, hb, hml, hown, hts⟩ (c_DotSheet_demand l hnt dC dI sa true H.size ) (va_cwS 1 hts (gS t_154 t_155 t_1 t_156) rfl rfl rfl (by decide +kernel) ⟨Nat.le_of_ble_eq_true rfl, Nat.le_of_ble_eq_true rfl⟩) ⟨zPx_blind, zPx_pre hP hD hK hXK hS hA [] [] rfl rfl rfl rfl⟩ rfl rfl hl.1 rfl (lv_room (Nat.le_of_ble_eq_true rfl)) d_D_line_42 ⟨Nat.le_of_ble_eq_true rfl, Nat.le_of_ble_eq_true rfl⟩) hP hD hS hA [] [0, 1, 2] rfl rfl rfl (by decide) (fun E_ ce_ q9_ H locs x_42 hP hD hS hce hcv hcl => ?_) (fun u_42 H locs q_42 hP hD hS => ?_)
            · exact absurd x_42.2 (by decide)
            have hP : va_P (dC, dI) vwCl [(hx_, .inr (4, [.ref hp, .ref hst, .ref hd, .ref hfa])), (hp, .inr (2, [.int (iZ w), .int (iZ h), .int (iZ mn), .ref hw, .ref hs, .ref hk])), (hw, .inl (cL, 16384, .inr (.inl (aL G))))] H := hP
            have hD : va_D A [(hx_, .inr (4, [.ref hp, .ref hst, .ref hd, .ref hfa])), (hp, .inr (2, [.int (iZ w), .int (iZ h), .int (iZ mn), .ref hw, .ref hs, .ref hk])), (hw, .inl (cL, 16384, .inr (.inl (aL G))))] := hD
            refine va_new (ci := 5) (fs := [.int (iZ 0), .int (iZ 0), .int (iZ 0), .int (iZ 0), .int (iZ 0), .long (lZ 0), .long (lZ 0), .long (lZ 0), .long (lZ 0), .int (iZ 0), .int (iZ 0)]) (C := R_Sk) (T := T_Sk) (N := 11) hx hb hts wi_Sk ty_Sk ty_Sk_ok hown (hts _ t_300) (hts _ t_301) (hts _ t_13) hK hP hD hS hA rfl (fun j hj => by rcases (show j = 0 ∨ j = 1 ∨ j = 2 ∨ j = 3 ∨ j = 4 ∨ j = 5 ∨ j = 6 ∨ j = 7 ∨ j = 8 ∨ j = 9 ∨ j = 10 by omega) with rfl | rfl | rfl | rfl | rfl | rfl | rfl | rfl | rfl | rfl | rfl <;> rfl) (Nat.le_of_ble_eq_true rfl) (Nat.le_of_ble_eq_true rfl) d_D_line_45 (fun q_45 H hP hD hS => ?_)
            have hP : va_P (dC, dI) vwCl [(hx_, .inr (4, [.ref hp, .ref hst, .ref hd, .ref hfa])), (hp, .inr (2, [.int (iZ w), .int (iZ h), .int (iZ mn), .ref hw, .ref hs, .ref hk])), (hw, .inl (cL, 16384, .inr (.inl (aL G)))), (q_45, .inr (5, [.int (iZ 0), .int (iZ 0), .int (iZ 0), .int (iZ 0), .int (iZ 0), .long (lZ 0), .long (lZ 0), .long (lZ 0), .long (lZ 0), .int (iZ 0), .int (iZ 0)]))] H := hP
            have hD : va_D A [(hx_, .inr (4, [.ref hp, .ref hst, .ref hd, .ref hfa])), (hp, .inr (2, [.int (iZ w), .int (iZ h), .int (iZ mn), .ref hw, .ref hs, .ref hk])), (hw, .inl (cL, 16384, .inr (.inl (aL G)))), (q_45, .inr (5, [.int (iZ 0), .int (iZ 0), .int (iZ 0), .int (iZ 0), .int (iZ 0), .long (lZ 0), .long (lZ 0), .long (lZ 0), .long (lZ 0), .int (iZ 0), .int (iZ 0)]))] := hD
            refine lv_dup hx hb d_D_line_48 rfl ?_
            refine lv_iload_n hx hb d_D_line_49 rfl (lv_at hl 1 rfl) ?_
            refine lv_iload_n hx hb d_D_line_50 rfl (lv_at hl 2 rfl) ?_
            refine lv_iload_n hx hb d_D_line_51 rfl (lv_at hl 3 rfl) ?_
            refine lv_iload hx hb d_D_line_52 (lv_at hl 4 rfl) ?_
            refine lv_iload hx hb d_D_line_54 (lv_at hl 5 rfl) ?_
            refine zc_v (w1 := fun (u_56 : Int) => [(q_45, .inr (5, [.int (iZ a), .int (iZ b), .int (iZ c0), .int (iZ d), .int (iZ t), .long (lZ (c0 - a)), .long (lZ (d - b)), .long (lZ ((c0 - a) * (c0 - a) + (d - b) * (d - b))), .long (lZ u_56), .int (iZ 0), .int (iZ 0)]))]) (wr := [(hx_, .inr (4, [.ref hp, .ref hst, .ref hd, .ref hfa])), (hp, .inr (2, [.int (iZ w), .int (iZ h), .int (iZ mn), .ref hw, .ref hs, .ref hk])), (hw, .inl (cL, 16384, .inr (.inl (aL G))))]) (va_runI (As := [.int (iZ a), .int (iZ b), .int (iZ c0), .int (iZ d), .int (iZ t)]) (rest := [.ref q_45]) ⟨hx, hb, hml, hown, hts⟩ (c_Stroke_init l dC dI q_45 a b c0 d t H.size (by first | omega | assumption) (by first | omega | assumption) (by first | omega | assumption) (by first | omega | assumption) (by first | omega | assumption) (by first | omega | assumption) (by first | omega | assumption) (by first | omega | assumption) (by first | omega | assumption) (by first | omega | assumption)) (cwI 5 hts (gC t_304) rfl rfl rfl (hts _ t_13) (hts _ t_302) (hts _ t_303) rfl (by decide +kernel) ⟨Nat.le_of_ble_eq_true rfl, Nat.le_of_ble_eq_true rfl⟩) ⟨zPm_blind, zPm_pre hP hD hK [3] [] rfl rfl rfl rfl⟩ rfl rfl hl.1 rfl (lv_room (Nat.le_of_ble_eq_true rfl)) d_D_line_56 ⟨Nat.le_of_ble_eq_true rfl, Nat.le_of_ble_eq_true rfl⟩) hP hD hS hA [3] [0, 1, 2] rfl rfl rfl (by decide) (fun u_56 H locs q_56 hP hD hS => ?_)
            have hP : va_P (dC, dI) vwCl [(hx_, .inr (4, [.ref hp, .ref hst, .ref hd, .ref hfa])), (hp, .inr (2, [.int (iZ w), .int (iZ h), .int (iZ mn), .ref hw, .ref hs, .ref hk])), (hw, .inl (cL, 16384, .inr (.inl (aL G)))), (q_45, .inr (5, [.int (iZ a), .int (iZ b), .int (iZ c0), .int (iZ d), .int (iZ t), .long (lZ (c0 - a)), .long (lZ (d - b)), .long (lZ ((c0 - a) * (c0 - a) + (d - b) * (d - b))), .long (lZ u_56), .int (iZ 0), .int (iZ 0)]))] H := hP
            have hD : va_D A [(hx_, .inr (4, [.ref hp, .ref hst, .ref hd, .ref hfa])), (hp, .inr (2, [.int (iZ w), .int (iZ h), .int (iZ mn), .ref hw, .ref hs, .ref hk])), (hw, .inl (cL, 16384, .inr (.inl (aL G)))), (q_45, .inr (5, [.int (iZ a), .int (iZ b), .int (iZ c0), .int (iZ d), .int (iZ t), .long (lZ (c0 - a)), .long (lZ (d - b)), .long (lZ ((c0 - a) * (c0 - a) + (d - b) * (d - b))), .long (lZ u_56), .int (iZ 0), .int (iZ 0)]))] := hD
            obtain ⟨g56a, g56b, g56c, g56d⟩ := q_56
            have m1 := mul_ab (a := c0 - a) (b := c0 - a) (A := 8192) (B := 8192) (by omega) (by omega) (by omega) (by omega)
            have m2 := mul_ab (a := d - b) (b := d - b) (A := 8192) (B := 8192) (by omega) (by omega) (by omega) (by omega)
            have m3 := sq_nn (c0 - a)
            have m4 := sq_nn (d - b)
            refine lv_astore (lv' := [(6, .ref q_45), (0, .ref hx_), (1, .int (iZ a)), (2, .int (iZ b)), (3, .int (iZ c0)), (4, .int (iZ d)), (5, .int (iZ t))]) hx hb d_D_line_59 hl (by decide) rfl (fun ls hl => ?_)
            refine lv_iload_n hx hb d_D_line_61 rfl (lv_at hl 3 rfl) ?_
            refine lv_iload hx hb d_D_line_62 (lv_at hl 5 rfl) ?_
            refine vp_callSi (va_runS (As := [.int (iZ b), .int (iZ d)]) (rest := []) ⟨hx, hb, hml, hown, hts⟩ (c_Math_mini l dC dI b d (by first | omega | assumption) (by first | omega | assumption) (by first | omega | assumption) (by first | omega | assumption)) (va_cwS 2 hts (gS t_271 t_272 t_12 t_273) rfl rfl rfl (by decide +kernel) ⟨Nat.le_of_ble_eq_true rfl, Nat.le_of_ble_eq_true rfl⟩) ⟨zPr_blind, zPr_pre hP hK [] [] rfl rfl⟩ rfl rfl hl.1 rfl (lv_room (Nat.le_of_ble_eq_true rfl)) d_D_line_64 ⟨Nat.le_of_ble_eq_true rfl, Nat.le_of_ble_eq_true rfl⟩).run (fun r_64 q_64 => ?_)
            obtain rfl := q_64
            refine lv_iload hx hb d_D_line_67 (lv_at hl 6 rfl) ?_
            refine lv_iconst (v := iZ (2)) hx hb d_D_line_69 rfl ?_
            refine zi_div hx hb d_D_line_70 (by omega) (by omega) (by omega) (by omega) ?_
            refine zi_sub hx hb d_D_line_71 ?_
            refine lv_iconst (v := iZ (0)) hx hb d_D_line_72 rfl ?_
            refine vp_callSi (va_runS (As := [.int (iZ ((min b d) - (t / 2))), .int (iZ 0)]) (rest := []) ⟨hx, hb, hml, hown, hts⟩ (c_Math_maxi l dC dI ((min b d) - (t / 2)) 0 (by first | omega | assumption) (by first | omega | assumption) (by first | omega | assumption) (by first | omega | assumption)) (va_cwS 2 hts (gS t_268 t_269 t_12 t_270) rfl rfl rfl (by decide +kernel) ⟨Nat.le_of_ble_eq_true rfl, Nat.le_of_ble_eq_true rfl⟩) ⟨zPr_blind, zPr_pre hP hK [] [] rfl rfl⟩ rfl rfl hl.1 rfl (lv_room (Nat.le_of_ble_eq_true rfl)) d_D_line_73 ⟨Nat.le_of_ble_eq_true rfl, Nat.le_of_ble_eq_true rfl⟩).run (fun r_73 q_73 => ?_)
            obtain rfl := q_73
            refine zn_z (fun tp e_tp => ?_)
            refine lv_istore (lv' := [(7, .int (iZ tp)), (6, .ref q_45), (0, .ref hx_), (1, .int (iZ a)), (2, .int (iZ b)), (3, .int (iZ c0)), (4, .int (iZ d)), (5, .int (iZ t))]) hx hb d_D_line_76 hl (by decide) rfl (fun ls hl => ?_)
            refine lv_iload_n hx hb d_D_line_78 rfl (lv_at hl 4 rfl) ?_
            refine lv_iload hx hb d_D_line_79 (lv_at hl 6 rfl) ?_
            refine vp_callSi (va_runS (As := [.int (iZ b), .int (iZ d)]) (rest := []) ⟨hx, hb, hml, hown, hts⟩ (c_Math_maxi l dC dI b d (by first | omega | assumption) (by first | omega | assumption) (by first | omega | assumption) (by first | omega | assumption)) (va_cwS 2 hts (gS t_268 t_269 t_12 t_270) rfl rfl rfl (by decide +kernel) ⟨Nat.le_of_ble_eq_true rfl, Nat.le_of_ble_eq_true rfl⟩) ⟨zPr_blind, zPr_pre hP hK [] [] rfl rfl⟩ rfl rfl hl.1 rfl (lv_room (Nat.le_of_ble_eq_true rfl)) d_D_line_81 ⟨Nat.le_of_ble_eq_true rfl, Nat.le_of_ble_eq_true rfl⟩).run (fun r_81 q_81 => ?_)
            obtain rfl := q_81
            refine lv_iload hx hb d_D_line_84 (lv_at hl 7 rfl) ?_
            refine lv_iconst (v := iZ (2)) hx hb d_D_line_86 rfl ?_
            refine zi_div hx hb d_D_line_87 (by omega) (by omega) (by omega) (by omega) ?_
            refine zi_add hx hb d_D_line_88 ?_
            refine lv_aload_n hx hb d_D_line_89 rfl (lv_at hl 2 rfl) ?_
            refine va_get (D := (dC, dI)) (ci := 4) (v := .ref hp) (C := R_D) (T := T_D) (N := 4) hx hb hts wi_D hown hK hP 0 rfl rfl 0 (by decide) (hts _ t_126) (fun _ h9 => h9) rfl d_D_line_90 ?_
            refine va_get (D := (dC, dI)) (ci := 2) (v := .int (iZ h)) (C := R_Pa) (T := T_Pa) (N := 6) hx hb hts wi_Pa hown hK hP 1 rfl rfl 1 (by decide) (hts _ t_36) (fun _ h9 => h9) rfl d_D_line_93 ?_
            refine lv_iconst (v := iZ (1)) hx hb d_D_line_96 rfl ?_
            refine zi_sub hx hb d_D_line_97 ?_
            refine vp_callSi (va_runS (As := [.int (iZ ((max b d) + (t / 2))), .int (iZ (h - 1))]) (rest := []) ⟨hx, hb, hml, hown, hts⟩ (c_Math_mini l dC dI ((max b d) + (t / 2)) (h - 1) (by first | omega | assumption) (by first | omega | assumption) (by first | omega | assumption) (by first | omega | assumption)) (va_cwS 2 hts (gS t_271 t_272 t_12 t_273) rfl rfl rfl (by decide +kernel) ⟨Nat.le_of_ble_eq_true rfl, Nat.le_of_ble_eq_true rfl⟩) ⟨zPr_blind, zPr_pre hP hK [] [] rfl rfl⟩ rfl rfl hl.1 rfl (lv_room (Nat.le_of_ble_eq_true rfl)) d_D_line_98 ⟨Nat.le_of_ble_eq_true rfl, Nat.le_of_ble_eq_true rfl⟩).run (fun r_98 q_98 => ?_)
            obtain rfl := q_98
            refine zn_z (fun bt e_bt => ?_)
            refine lv_istore (lv' := [(8, .int (iZ bt)), (7, .int (iZ tp)), (6, .ref q_45), (0, .ref hx_), (1, .int (iZ a)), (2, .int (iZ b)), (3, .int (iZ c0)), (4, .int (iZ d)), (5, .int (iZ t))]) hx hb d_D_line_101 hl (by decide) rfl (fun ls hl => ?_)
            refine lv_iconst (v := iZ (0)) hx hb d_D_line_103 rfl ?_
            refine lv_istore (lv' := [(9, .int (iZ 0)), (8, .int (iZ bt)), (7, .int (iZ tp)), (6, .ref q_45), (0, .ref hx_), (1, .int (iZ a)), (2, .int (iZ b)), (3, .int (iZ c0)), (4, .int (iZ d)), (5, .int (iZ t))]) hx hb d_D_line_104 hl (by decide) rfl (fun ls hl => ?_)
            refine lv_iload hx hb d_D_line_106 (lv_at hl 2 rfl) ?_
            refine lv_istore (lv' := [(10, .int (iZ tp)), (9, .int (iZ 0)), (8, .int (iZ bt)), (7, .int (iZ tp)), (6, .ref q_45), (0, .ref hx_), (1, .int (iZ a)), (2, .int (iZ b)), (3, .int (iZ c0)), (4, .int (iZ d)), (5, .int (iZ t))]) hx hb d_D_line_108 hl (by decide) rfl (fun ls hl => ?_)
            have LP_110 : ∀ (n_110 : Nat) (row : Int) (dn : Int) (K : Int → Int64) (lf : Int) (rt : Int), (0 ≤ row ∧ min b d - t / 2 ≤ row) → (row ≤ h ∨ row ≤ tp) → (row ≤ 4200) → (rwI w h mn (lnD a b c0 d t) pic K row dn) → (4300 - row).toNat < n_110 → ∀ (H : Heap) (locs : List Loc), va_P (dC, dI) vwCl [(hx_, .inr (4, [.ref hp, .ref hst, .ref hd, .ref hfa])), (hp, .inr (2, [.int (iZ w), .int (iZ h), .int (iZ mn), .ref hw, .ref hs, .ref hk])), (hw, .inl (cL, 16384, .inr (.inl (aL K)))), (q_45, .inr (5, [.int (iZ a), .int (iZ b), .int (iZ c0), .int (iZ d), .int (iZ t), .long (lZ (c0 - a)), .long (lZ (d - b)), .long (lZ ((c0 - a) * (c0 - a) + (d - b) * (d - b))), .long (lZ u_56), .int (iZ lf), .int (iZ rt)]))] H → va_D A [(hx_, .inr (4, [.ref hp, .ref hst, .ref hd, .ref hfa])), (hp, .inr (2, [.int (iZ w), .int (iZ h), .int (iZ mn), .ref hw, .ref hs, .ref hk])), (hw, .inl (cL, 16384, .inr (.inl (aL K)))), (q_45, .inr (5, [.int (iZ a), .int (iZ b), .int (iZ c0), .int (iZ d), .int (iZ t), .long (lZ (c0 - a)), .long (lZ (d - b)), .long (lZ ((c0 - a) * (c0 - a) + (d - b) * (d - b))), .long (lZ u_56), .int (iZ lf), .int (iZ rt)]))] → va_S A s.heap H locs → ∀ (ls : Array Slot), lv_has ls 11 [(0, .ref hx_), (1, .int (iZ a)), (2, .int (iZ b)), (3, .int (iZ c0)), (4, .int (iZ d)), (5, .int (iZ t)), (6, .ref q_45), (7, .int (iZ tp)), (8, .int (iZ bt)), (9, .int (iZ dn)), (10, .int (iZ row))] → W p l e ({ frames := 7, cells := 2, slots := 17, locals := 120 } : Room) s m ([.ref hx_, .int (iZ a), .int (iZ b), .int (iZ c0), .int (iZ d), .int (iZ t)] : List Value).toArray below meth c H locs 2 17 (vx_MQ below (va_Qi (fun (r : Int32) (u : Int → Int64) => r = iZ (cnt w h (lnD a b c0 d t)) ∧ (-4096 ≤ a ∧ a ≤ 4096 ∧ -4096 ≤ b ∧ b ≤ 4096 ∧ -4096 ≤ c0 ∧ c0 ≤ 4096 ∧ -4096 ≤ d ∧ d ≤ 4096 ∧ 1 ≤ t ∧ t ≤ 200) ∧ Rep u (drw mn (fun px py => onB w h px py && lnD a b c0 d t px py) pic)) (fun u => zB (dC, dI) vwCl [(cL, .long)] A [(hx_, .inr (4, [.ref hp, .ref hst, .ref hd, .ref hfa])), (hp, .inr (2, [.int (iZ w), .int (iZ h), .int (iZ mn), .ref hw, .ref hs, .ref hk])), (hw, .inl (cL, 16384, .inr (.inl (aL u))))]) A) (zX (fun E => E = "java/lang/IllegalArgumentException" ∧ ¬ (-4096 ≤ a ∧ a ≤ 4096 ∧ -4096 ≤ b ∧ b ≤ 4096 ∧ -4096 ≤ c0 ∧ c0 ≤ 4096 ∧ -4096 ≤ d ∧ d ≤ 4096 ∧ 1 ≤ t ∧ t ≤ 200)) (dC, dI) vwCl [(cL, .long)] A [(hx_, .inr (4, [.ref hp, .ref hst, .ref hd, .ref hfa])), (hp, .inr (2, [.int (iZ w), .int (iZ h), .int (iZ mn), .ref hw, .ref hs, .ref hk])), (hw, .inl (cL, 16384, .inr (.inl (aL G))))]) ([.ref hx_, .int (iZ a), .int (iZ b), .int (iZ c0), .int (iZ d), .int (iZ t)] : List Value).toArray s 2 17 A) (F0 m 110 ls []) := by
              intro n_110
              induction n_110 with
              | zero => intro row dn K lf rt i1 i4 i5 i3 hm; exact absurd hm (by omega)
              | succ n_110 ih_110 =>
                intro row dn K lf rt i1 i4 i5 i3 hm_110 H locs hP hD hS ls hl
                have i3b := i3.1
                refine lv_iload hx hb d_D_line_110 (lv_at hl 10 rfl) ?_
                refine lv_iload hx hb d_D_line_112 (lv_at hl 8 rfl) ?_
                refine zi_gt (tgt := 156) hx hb d_D_line_114 (by decide) (by omega) (by omega) (by omega) (by omega) (fun c_114 => ?_) (fun c_114 => ?_)
                · have e9 := rw_fin i3 (by omega) (by omega) (Classical.byCases (fun (q9 : row ≤ h) => Or.inl q9) (fun q9 => Or.inr (fun x9 y9 p9 q8 => ln_out (by omega) (by omega)))) (fun x9 y9 q1 q2 => ln_out (by omega) (by omega))
                  refine lv_iload hx hb d_D_line_156 (lv_at hl 9 rfl) ?_
                  have hP := hP.sub (ws' := [(hx_, .inr (4, [.ref hp, .ref hst, .ref hd, .ref hfa])), (hp, .inr (2, [.int (iZ w), .int (iZ h), .int (iZ mn), .ref hw, .ref hs, .ref hk])), (hw, .inl (cL, 16384, .inr (.inl (aL K))))]) [0, 1, 2] rfl
                  have hD := hD.sub (ws' := [(hx_, .inr (4, [.ref hp, .ref hst, .ref hd, .ref hfa])), (hp, .inr (2, [.int (iZ w), .int (iZ h), .int (iZ mn), .ref hw, .ref hs, .ref hk])), (hw, .inl (cL, 16384, .inr (.inl (aL K))))]) [0, 1, 2] (by decide) rfl
                  refine vx_ret ?_
                  exact W.iret hx hb hr (fun t ht hW => ⟨⟨_, K, rfl, ⟨congrArg iZ e9.1, by omega, e9.2⟩, by rw [ht]; exact hP, va_K.moved hW.alike hK, hD⟩, hS.F ht⟩) hS.2.2 d_D_line_158
                · refine lv_aload hx hb d_D_line_117 (lv_at hl 6 rfl) ?_
                  refine lv_iload hx hb d_D_line_119 (lv_at hl 10 rfl) ?_
                  refine zc_v (w1 := fun (u_121 : Int × Int) => [(q_45, .inr (5, [.int (iZ a), .int (iZ b), .int (iZ c0), .int (iZ d), .int (iZ t), .long (lZ ((c0 - a))), .long (lZ ((d - b))), .long (lZ (((c0 - a) * (c0 - a) + (d - b) * (d - b)))), .long (lZ u_56), .int (iZ u_121.1), .int (iZ u_121.2)]))]) (wr := [(hx_, .inr (4, [.ref hp, .ref hst, .ref hd, .ref hfa])), (hp, .inr (2, [.int (iZ w), .int (iZ h), .int (iZ mn), .ref hw, .ref hs, .ref hk])), (hw, .inl (cL, 16384, .inr (.inl (aL K))))]) (va_runV (As := [.int (iZ row)]) (rest := []) ⟨hx, hb, hml, hown, hts⟩ (c_Stroke_cross l dC dI q_45 a b c0 d t (c0 - a) (d - b) ((c0 - a) * (c0 - a) + (d - b) * (d - b)) u_56 lf rt row H.size (by first | omega | assumption) (by first | omega | assumption) (by first | omega | assumption) (by first | omega | assumption) (by first | omega | assumption) (by first | omega | assumption) (by first | omega | assumption) (by first | omega | assumption) (by first | omega | assumption) (by first | omega | assumption) (by first | omega | assumption) (by first | omega | assumption) (by first | omega | assumption) (by first | omega | assumption) (by first | omega | assumption) (by first | omega | assumption) (by first | omega | assumption) (by first | omega | assumption) (by first | omega | assumption) (by first | omega | assumption) (rfl) (rfl) (rfl) (by first | omega | assumption) (by first | omega | assumption)) (cwV 1 hts (gV t_347 t_348 t_349 t_13 t_350) rfl rfl rfl (by decide +kernel) ⟨Nat.le_of_ble_eq_true rfl, Nat.le_of_ble_eq_true rfl⟩) ⟨zPm_blind, va_recv hK hP (ci := 5) (q0 := 3) rfl rfl, zPm_pre hP hD hK [3] [] rfl rfl rfl rfl⟩ rfl rfl hl.1 rfl (lv_room (Nat.le_of_ble_eq_true rfl)) d_D_line_121 ⟨Nat.le_of_ble_eq_true rfl, Nat.le_of_ble_eq_true rfl⟩) hP hD hS hA [3] [0, 1, 2] rfl rfl rfl (by decide) (fun u_121 H locs q_121 hP hD hS => ?_)
                  have hP : va_P (dC, dI) vwCl [(hx_, .inr (4, [.ref hp, .ref hst, .ref hd, .ref hfa])), (hp, .inr (2, [.int (iZ w), .int (iZ h), .int (iZ mn), .ref hw, .ref hs, .ref hk])), (hw, .inl (cL, 16384, .inr (.inl (aL K)))), (q_45, .inr (5, [.int (iZ a), .int (iZ b), .int (iZ c0), .int (iZ d), .int (iZ t), .long (lZ ((c0 - a))), .long (lZ ((d - b))), .long (lZ (((c0 - a) * (c0 - a) + (d - b) * (d - b)))), .long (lZ u_56), .int (iZ u_121.1), .int (iZ u_121.2)]))] H := hP
                  have hD : va_D A [(hx_, .inr (4, [.ref hp, .ref hst, .ref hd, .ref hfa])), (hp, .inr (2, [.int (iZ w), .int (iZ h), .int (iZ mn), .ref hw, .ref hs, .ref hk])), (hw, .inl (cL, 16384, .inr (.inl (aL K)))), (q_45, .inr (5, [.int (iZ a), .int (iZ b), .int (iZ c0), .int (iZ d), .int (iZ t), .long (lZ ((c0 - a))), .long (lZ ((d - b))), .long (lZ (((c0 - a) * (c0 - a) + (d - b) * (d - b)))), .long (lZ u_56), .int (iZ u_121.1), .int (iZ u_121.2)]))] := hD
                  obtain ⟨q_121, v121a, v121b, v121c, v121d⟩ := q_121
                  refine lv_iload hx hb d_D_line_124 (lv_at hl 9 rfl) ?_
                  refine lv_aload_n hx hb d_D_line_126 rfl (lv_at hl 0 rfl) ?_
                  refine va_get (D := (dC, dI)) (ci := 4) (v := .ref hp) (C := R_D) (T := T_D) (N := 4) hx hb hts wi_D hown hK hP 0 rfl rfl 0 (by decide) (hts _ t_126) (fun _ h9 => h9) rfl d_D_line_127 ?_
                  refine lv_aload hx hb d_D_line_130 (lv_at hl 6 rfl) ?_
                  refine va_get (D := (dC, dI)) (ci := 5) (v := .int (iZ u_121.1)) (C := R_Sk) (T := T_Sk) (N := 11) hx hb hts wi_Sk hown hK hP 3 rfl rfl 9 (by decide) (hts _ t_321) (fun _ h9 => h9) rfl d_D_line_132 ?_
                  refine lv_iload hx hb d_D_line_135 (lv_at hl 10 rfl) ?_
                  refine lv_aload hx hb d_D_line_137 (lv_at hl 6 rfl) ?_
                  refine va_get (D := (dC, dI)) (ci := 5) (v := .int (iZ u_121.2)) (C := R_Sk) (T := T_Sk) (N := 11) hx hb hts wi_Sk hown hK hP 3 rfl rfl 10 (by decide) (hts _ t_323) (fun _ h9 => h9) rfl d_D_line_139 ?_
                  refine lv_iload hx hb d_D_line_142 (lv_at hl 10 rfl) ?_
                  refine zc_i (w1 := fun (u_144 : Int → Int64) => [(hp, .inr (2, [.int (iZ w), .int (iZ h), .int (iZ mn), .ref hw, .ref hs, .ref hk])), (hw, .inl (cL, 16384, .inr (.inl (aL u_144))))]) (wr := [(hx_, .inr (4, [.ref hp, .ref hst, .ref hd, .ref hfa])), (q_45, .inr (5, [.int (iZ a), .int (iZ b), .int (iZ c0), .int (iZ d), .int (iZ t), .long (lZ ((c0 - a))), .long (lZ ((d - b))), .long (lZ (((c0 - a) * (c0 - a) + (d - b) * (d - b)))), .long (lZ u_56), .int (iZ u_121.1), .int (iZ u_121.2)]))]) (va_runV (As := [.int (iZ u_121.1), .int (iZ row), .int (iZ u_121.2), .int (iZ row)]) (rest := [.int (iZ dn)]) ⟨hx, hb, hml, hown, hts⟩ (c_Paper_drawBox l dC dI hp hw hs hk cL w h mn K (drw mn (fun px py => onB w h px py && (lnD a b c0 d t px py && decide (py < row))) pic) u_121.1 row u_121.2 row H.size (by first | omega | assumption) (by first | omega | assumption) (by first | omega | assumption) (by first | omega | assumption) (by first | omega | assumption) (by first | omega | assumption) (by first | omega | assumption) (by first | omega | assumption) (by first | omega | assumption) (by first | omega | assumption) (by first | omega | assumption) (by first | omega | assumption) (by first | omega | assumption) (by first | omega | assumption) (by first | omega | assumption)) (cwV 4 hts (gV t_292 t_279 t_280 t_2 t_281) rfl rfl rfl (by decide +kernel) ⟨Nat.le_of_ble_eq_true rfl, Nat.le_of_ble_eq_true rfl⟩) ⟨zPm_blind, va_recv hK hP (ci := 2) (q0 := 1) rfl rfl, zPm_pre hP hD hK [1, 2] [0] rfl rfl rfl rfl⟩ rfl rfl hl.1 rfl (lv_room (Nat.le_of_ble_eq_true rfl)) d_D_line_144 ⟨Nat.le_of_ble_eq_true rfl, Nat.le_of_ble_eq_true rfl⟩) hP hD hS hA [1, 2] [0, 3] rfl rfl rfl (by decide) (fun r_144 u_144 H locs q_144 hP hD hS => ?_)
                  have hP : va_P (dC, dI) vwCl [(hx_, .inr (4, [.ref hp, .ref hst, .ref hd, .ref hfa])), (q_45, .inr (5, [.int (iZ a), .int (iZ b), .int (iZ c0), .int (iZ d), .int (iZ t), .long (lZ ((c0 - a))), .long (lZ ((d - b))), .long (lZ (((c0 - a) * (c0 - a) + (d - b) * (d - b)))), .long (lZ u_56), .int (iZ u_121.1), .int (iZ u_121.2)])), (hp, .inr (2, [.int (iZ w), .int (iZ h), .int (iZ mn), .ref hw, .ref hs, .ref hk])), (hw, .inl (cL, 16384, .inr (.inl (aL u_144))))] H := hP
                  have hD : va_D A [(hx_, .inr (4, [.ref hp, .ref hst, .ref hd, .ref hfa])), (q_45, .inr (5, [.int (iZ a), .int (iZ b), .int (iZ c0), .int (iZ d), .int (iZ t), .long (lZ ((c0 - a))), .long (lZ ((d - b))), .long (lZ (((c0 - a) * (c0 - a) + (d - b) * (d - b)))), .long (lZ u_56), .int (iZ u_121.1), .int (iZ u_121.2)])), (hp, .inr (2, [.int (iZ w), .int (iZ h), .int (iZ mn), .ref hw, .ref hs, .ref hk])), (hw, .inl (cL, 16384, .inr (.inl (aL u_144))))] := hD
                  obtain ⟨rfl, q_144⟩ := q_144
                  refine zi_add hx hb d_D_line_147 ?_
                  refine zn_z (fun v9_148 e_v9_148 => ?_)
                  refine lv_istore (lv' := [(9, .int (iZ v9_148)), (0, .ref hx_), (1, .int (iZ a)), (2, .int (iZ b)), (3, .int (iZ c0)), (4, .int (iZ d)), (5, .int (iZ t)), (6, .ref q_45), (7, .int (iZ tp)), (8, .int (iZ bt)), (10, .int (iZ row))]) hx hb d_D_line_148 hl (by decide) rfl (fun ls hl => ?_)
                  refine lv_iinc (v := iZ (row + 1)) (lv' := [(10, .int (iZ (row + 1))), (9, .int (iZ v9_148)), (0, .ref hx_), (1, .int (iZ a)), (2, .int (iZ b)), (3, .int (iZ c0)), (4, .int (iZ d)), (5, .int (iZ t)), (6, .ref q_45), (7, .int (iZ tp)), (8, .int (iZ bt))]) hx hb d_D_line_150 hl (k := 10) rfl (iZ_add _ _) (by decide) rfl (fun ls hl => ?_)
                  refine lv_goto (tgt := 110) hx hb d_D_line_153 (by decide) ?_
                  exact ih_110 (row + 1) v9_148 u_144 u_121.1 u_121.2 (by omega) (by omega) (by omega) (by rw [e_v9_148, boxN_cnt w1 h1]; exact rw_step2 i3 (by omega) (by omega) q_144 (fun px py o9 => ln_row w2 h2 q_121 px py o9)) (by omega) _ _ (hP.sub (ws' := [(hx_, .inr (4, [.ref hp, .ref hst, .ref hd, .ref hfa])), (hp, .inr (2, [.int (iZ w), .int (iZ h), .int (iZ mn), .ref hw, .ref hs, .ref hk])), (hw, .inl (cL, 16384, .inr (.inl (aL u_144)))), (q_45, .inr (5, [.int (iZ a), .int (iZ b), .int (iZ c0), .int (iZ d), .int (iZ t), .long (lZ ((c0 - a))), .long (lZ ((d - b))), .long (lZ (((c0 - a) * (c0 - a) + (d - b) * (d - b)))), .long (lZ u_56), .int (iZ u_121.1), .int (iZ u_121.2)]))]) [0, 2, 3, 1] rfl) (hD.sub (ws' := [(hx_, .inr (4, [.ref hp, .ref hst, .ref hd, .ref hfa])), (hp, .inr (2, [.int (iZ w), .int (iZ h), .int (iZ mn), .ref hw, .ref hs, .ref hk])), (hw, .inl (cL, 16384, .inr (.inl (aL u_144)))), (q_45, .inr (5, [.int (iZ a), .int (iZ b), .int (iZ c0), .int (iZ d), .int (iZ t), .long (lZ ((c0 - a))), .long (lZ ((d - b))), .long (lZ (((c0 - a) * (c0 - a) + (d - b) * (d - b)))), .long (lZ u_56), .int (iZ u_121.1), .int (iZ u_121.2)]))]) [0, 2, 3, 1] (by decide) rfl) hS ls (lv_sub hl [2, 3, 4, 5, 6, 7, 8, 9, 10, 1, 0] rfl)
            exact LP_110 _ tp 0 G 0 0 (by omega) (by omega) (by omega) (rw_0 hR (by omega) (fun x9 y9 p9 q9 => ln_out (by omega) (by omega))) (Nat.lt_succ_self _) _ _ hP hD hS ls (lv_sub hl [5, 6, 7, 8, 9, 10, 4, 3, 2, 1, 0] rfl)
