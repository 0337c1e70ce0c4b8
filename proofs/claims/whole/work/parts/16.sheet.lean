/-! figures drawn row by row -/
def rwI (w h mn : Int) (S pic : Int → Int → Bool) (K : Int → Int64) (row dn : Int) : Prop :=
  Rep K (drw mn (fun x y => onB w h x y && (S x y && decide (y < row))) pic) ∧ dn = sR (fun y => cR (fun x => S x y) w.toNat) row.toNat
theorem rw_0 {w h mn : Int} {S pic : Int → Int → Bool} {G : Int → Int64} (hR : Rep G pic) {row : Int} (r0 : 0 ≤ row) (h0 : ∀ x y, 0 ≤ y → y < row → S x y = false) : rwI w h mn S pic G row 0 := by
  refine ⟨?_, ?_⟩
  · rw [drw_no]
    · exact hR
    · intro x y
      by_cases q : y < row
      · cases o : onB w h x y
        · simp
        · have := of_decide_eq_true o
          rw [h0 x y (by omega) q]; simp
      · rw [decide_eq_false q]; simp
  · rw [sR_no]
    intro y y0 y1
    exact cR_no (fun x _ _ => h0 x y y0 (by omega))
theorem cnt_row {w h row : Int} {S T : Int → Int → Bool} (r0 : 0 ≤ row) (r1 : row < h) (hT : ∀ x y, T x y = (S x y && decide (y = row))) : cnt w h T = cR (fun x => S x row) w.toNat := by
  have e : cnt w h T = sR (fun y => if row ≤ y ∧ y ≤ row then cR (fun x => S x row) w.toNat else 0) h.toNat := by
    refine sR_ext (fun y _ _ => ?_)
    by_cases q : y = row
    · subst q
      rw [if_pos (by omega)]
      exact cR_ext (fun x _ _ => by rw [hT]; simp)
    · rw [if_neg (by omega)]
      exact cR_no (fun x _ _ => by rw [hT]; simp [q])
  rw [e, sR_iv, show max 0 (min row ((h.toNat : Int) - 1) - max row 0 + 1) = 1 by omega, Int.one_mul]
theorem rw_step {w h mn : Int} {S T pic : Int → Int → Bool} {K u : Int → Int64} {row dn : Int} (q : rwI w h mn S pic K row dn) (r0 : 0 ≤ row) (r1 : row < h)
    (hu : Rep u (drw mn (fun x y => onB w h x y && T x y) (drw mn (fun x y => onB w h x y && (S x y && decide (y < row))) pic))) (hT : ∀ x y, T x y = (S x y && decide (y = row))) : rwI w h mn S pic u (row + 1) (dn + cnt w h T) := by
  refine ⟨?_, ?_⟩
  · rw [← drw_two (S := fun x y => S x y && decide (y < row)) (T := T)]
    · exact hu
    · intro x y e
      rw [Bool.and_eq_true] at e
      rw [hT, decide_eq_false (by have := of_decide_eq_true e.2; omega), Bool.and_false]
    · intro x y
      rw [hT]
      by_cases a : y < row
      · rw [decide_eq_true a, decide_eq_true (show y < row + 1 by omega), decide_eq_false (show ¬ y = row by omega)]; simp
      · by_cases b : y = row
        · rw [decide_eq_false a, decide_eq_true (show y < row + 1 by omega), decide_eq_true b]; simp
        · rw [decide_eq_false a, decide_eq_false (show ¬ y < row + 1 by omega), decide_eq_false b]; simp
  · rw [q.2, cnt_row r0 r1 hT, show (row + 1).toNat = row.toNat + 1 by omega]
    show _ = sR _ row.toNat + cR (fun x => S x (row.toNat : Int)) w.toNat
    rw [show ((row.toNat : Nat) : Int) = row by omega]
theorem sR_cut {f : Int → Int} {m : Nat} : ∀ {n : Nat}, m ≤ n → (∀ y : Int, m ≤ y → y < n → f y = 0) → sR f n = sR f m
  | 0, h, _ => by rw [show m = 0 by omega]
  | n + 1, h, z => by
    by_cases e : m = n + 1
    · rw [e]
    · show sR f n + f n = _
      rw [z n (by omega) (by omega), sR_cut (n := n) (by omega) (fun y a b => z y a (by omega)), Int.add_zero]
theorem rw_end {w h mn : Int} {S pic : Int → Int → Bool} {K : Int → Int64} {row dn : Int} (q : rwI w h mn S pic K row dn) (r0 : 0 ≤ row) (hz : ∀ x y, row ≤ y → y < h → S x y = false) (hle : row ≤ h) : dn = cnt w h S ∧ Rep K (drw mn (fun x y => onB w h x y && S x y) pic) := by
  refine ⟨?_, ?_⟩
  · rw [q.2]
    unfold cnt
    exact (sR_cut (by omega) (fun y a b => cR_no (fun x _ _ => hz x y (by omega) (by omega)))).symm
  · rw [drw_ext (T := fun x y => onB w h x y && (S x y && decide (y < row)))]
    · exact q.1
    · intro x y
      by_cases a : y < row
      · rw [decide_eq_true a]; simp
      · cases o : onB w h x y
        · simp
        · have := of_decide_eq_true o
          rw [hz x y (by omega) (by omega)]; simp
def frB (x y bw bh t px py : Int) : Bool := decide (x ≤ px ∧ px ≤ x + bw - 1 ∧ y ≤ py ∧ py ≤ y + bh - 1 ∧ ¬ (x + t ≤ px ∧ px ≤ x + bw - 1 - t ∧ y + t ≤ py ∧ py ≤ y + bh - 1 - t))
theorem fr_ring {x y bw bh t row : Int} (t1 : 1 ≤ t) (h1 : y + t ≤ row) (h2 : row ≤ y + bh - 1 - t) (px py : Int) : rgB row x (x + bw - 1) (x + t) (x + bw - 1 - t) px py = (frB x y bw bh t px py && decide (py = row)) := by
  unfold rgB frB; rw [← Bool.decide_and]; exact decide_eq_decide.mpr (by omega)
theorem fr_box {x y bw bh t row : Int} (t1 : 1 ≤ t) (h0 : y ≤ row) (h1 : row ≤ y + bh - 1) (h2 : ¬ (y + t ≤ row ∧ row ≤ y + bh - 1 - t)) (px py : Int) : bxB x row (x + bw - 1) row px py = (frB x y bw bh t px py && decide (py = row)) := by
  unfold bxB frB; rw [← Bool.decide_and]; exact decide_eq_decide.mpr (by omega)
/-! ellipses -/
def ovP (u v w h : Int) : Prop := u * h * (u * h) + v * w * (v * w) ≤ w * h * (w * h)
theorem ov_v {u v w h : Int} (w0 : 0 < w) (h0 : 0 < h) (q : ovP u v w h) : -h ≤ v ∧ v ≤ h := by
  unfold ovP at q
  have a := sq_nn (u * h)
  have e1 : v * w * (v * w) = v * v * (w * w) := by grind
  have e2 : w * h * (w * h) = h * h * (w * w) := by grind
  have w2 : 0 < w * w := Int.mul_pos w0 w0
  have b : v * v * (w * w) ≤ h * h * (w * w) := by omega
  have c : v * v ≤ h * h := Int.le_of_mul_le_mul_right b w2
  constructor
  · rcases Int.lt_or_le v (-h) with z | z
    · have := sq_le (a := h + 1) (b := -v) (by omega) (by omega)
      rw [Int.neg_mul_neg] at this
      have e : (h + 1) * (h + 1) = h * h + 2 * h + 1 := by grind
      omega
    · exact z
  · rcases Int.lt_or_le h v with z | z
    · have := sq_le (a := h + 1) (b := v) (by omega) (by omega)
      have e : (h + 1) * (h + 1) = h * h + 2 * h + 1 := by grind
      omega
    · exact z
theorem ov_mono {u v w h w2 h2 : Int} (w0 : 0 < w2) (h0 : 0 < h2) (hw : w2 ≤ w) (hh : h2 ≤ h) (q : ovP u v w2 h2) : ovP u v w h := by
  have r := ov_v w0 h0 q
  unfold ovP at q ⊢
  have e1 : u * h2 * (u * h2) = u * u * (h2 * h2) := by grind
  have e2 : v * w2 * (v * w2) = w2 * w2 * (v * v) := by grind
  have e3 : w2 * h2 * (w2 * h2) = w2 * w2 * (h2 * h2) := by grind
  have f1 : u * h * (u * h) = u * u * (h2 * h2) + u * u * (h * h - h2 * h2) := by grind
  have f2 : v * w * (v * w) = w * w * (v * v) := by grind
  have f3 : w * h * (w * h) = w * w * (h * h) := by grind
  rw [e1, e2, e3] at q
  rw [f1, f2, f3]
  have a1 : h2 * h2 ≤ h * h := sq_le (by omega) hh
  have a2 : w2 * w2 ≤ w * w := sq_le (by omega) hw
  have a3 : v * v ≤ h2 * h2 := by
    by_cases z : 0 ≤ v
    · exact sq_le z r.2
    · have := sq_le (a := -v) (b := h2) (by omega) (by omega)
      rw [Int.neg_mul_neg] at this; exact this
  have hp : 0 < h2 * h2 := Int.mul_pos h0 h0
  have a4 : u * u ≤ w2 * w2 := by
    have n1 : 0 ≤ w2 * w2 * (v * v) := Int.mul_nonneg (sq_nn _) (sq_nn _)
    exact Int.le_of_mul_le_mul_right (show u * u * (h2 * h2) ≤ w2 * w2 * (h2 * h2) by omega) hp
  have b1 : u * u * (h * h - h2 * h2) ≤ w2 * w2 * (h * h - h2 * h2) := Int.mul_le_mul_of_nonneg_right a4 (by omega)
  have b2 : w2 * w2 * (h * h - v * v) ≤ w * w * (h * h - v * v) := Int.mul_le_mul_of_nonneg_right a2 (by omega)
  have g1 : w2 * w2 * (h * h - h2 * h2) = w2 * w2 * (h * h) - w2 * w2 * (h2 * h2) := Int.mul_sub ..
  have g2 : w2 * w2 * (h * h - v * v) = w2 * w2 * (h * h) - w2 * w2 * (v * v) := Int.mul_sub ..
  have g3 : w * w * (h * h - v * v) = w * w * (h * h) - w * w * (v * v) := Int.mul_sub ..
  omega
/-- what ellipseReach says -/
def erS (w h v z : Int) : Prop := (z = -1 ∧ (w ≤ 0 ∨ h ≤ 0 ∨ v < -h ∨ h < v)) ∨ (0 ≤ z ∧ z ≤ w ∧ 0 < w ∧ 0 < h ∧ -h ≤ v ∧ v ≤ h ∧ ∀ u : Int, -z ≤ u ∧ u ≤ z ↔ u * h * (u * h) + v * w * (v * w) ≤ w * h * (w * h))
def elB (x y bw bh t px py : Int) : Prop := ovP (2 * (px - x) - (bw - 1)) (2 * (py - y) - (bh - 1)) bw bh ∧ ¬ (0 < bw - 2 * t ∧ 0 < bh - 2 * t ∧ ovP (2 * (px - x) - (bw - 1)) (2 * (py - y) - (bh - 1)) (bw - 2 * t) (bh - 2 * t))
noncomputable def elD (x y bw bh t px py : Int) : Bool := @decide (elB x y bw bh t px py) (Classical.propDecidable _)
def elR (row x bw o i px py : Int) : Bool := decide (py = row ∧ -o ≤ 2 * (px - x) - (bw - 1) ∧ 2 * (px - x) - (bw - 1) ≤ o ∧ ¬ (-i ≤ 2 * (px - x) - (bw - 1) ∧ 2 * (px - x) - (bw - 1) ≤ i))
theorem er_le {bw bh t v o i : Int} (t1 : 1 ≤ t) (b1 : 1 ≤ bw) (c1 : 1 ≤ bh) (v1 : -bh ≤ v) (v2 : v ≤ bh) (ho : erS bw bh v o) (hi : erS (bw - 2 * t) (bh - 2 * t) v i) : 0 ≤ o ∧ o ≤ bw ∧ -1 ≤ i ∧ i ≤ o := by
  rcases ho with ho | ⟨o1, o2, o3, o4, o5, o6, o7⟩
  · exact absurd ho.2 (by omega)
  · refine ⟨o1, o2, ?_⟩
    rcases hi with hi | ⟨i1, i2, i3, i4, i5, i6, i7⟩
    · omega
    · have a := ov_mono (u := i) (v := v) i3 i4 (show bw - 2 * t ≤ bw by omega) (show bh - 2 * t ≤ bh by omega) ((i7 i).mp (by omega))
      have := (o7 i).mpr a
      omega
theorem el_row {x y bw bh t v o i row : Int} (t1 : 1 ≤ t) (b1 : 1 ≤ bw) (c1 : 1 ≤ bh) (hv : v = 2 * (row - y) - (bh - 1)) (v1 : -bh ≤ v) (v2 : v ≤ bh) (ho : erS bw bh v o) (hi : erS (bw - 2 * t) (bh - 2 * t) v i) (px py : Int) : elR row x bw o i px py = (elD x y bw bh t px py && decide (py = row)) := by
  by_cases e : py = row
  · subst e
    rw [decide_eq_true rfl, Bool.and_true]
    unfold elR elD elB
    rcases ho with ho | ⟨o1, o2, o3, o4, o5, o6, o7⟩
    · exact absurd ho.2 (by omega)
    · have a := o7 (2 * (px - x) - (bw - 1))
      rw [hv] at a
      have b : (-i ≤ 2 * (px - x) - (bw - 1) ∧ 2 * (px - x) - (bw - 1) ≤ i) ↔ (0 < bw - 2 * t ∧ 0 < bh - 2 * t ∧ ovP (2 * (px - x) - (bw - 1)) (2 * (py - y) - (bh - 1)) (bw - 2 * t) (bh - 2 * t)) := by
        rcases hi with hi | ⟨i1, i2, i3, i4, i5, i6, i7⟩
        · constructor
          · intro z; omega
          · rintro ⟨z1, z2, z3⟩
            have := ov_v z1 z2 z3
            omega
        · have c := i7 (2 * (px - x) - (bw - 1))
          rw [hv] at c
          exact ⟨fun z => ⟨i3, i4, c.mp z⟩, fun z => c.mpr z.2.2⟩
      rw [decide_eq_decide]
      constructor
      · rintro ⟨-, z1, z2, z3⟩
        exact ⟨a.mp ⟨z1, z2⟩, fun z => z3 (b.mpr z)⟩
      · rintro ⟨z1, z2⟩
        have := a.mpr z1
        exact ⟨rfl, this.1, this.2, fun z => z2 (b.mp z)⟩
  · rw [decide_eq_false e, Bool.and_false]
    unfold elR
    exact decide_eq_false (by omega)
theorem el_out {x y bw bh t px py : Int} (b1 : 1 ≤ bw) (c1 : 1 ≤ bh) (q : py < y ∨ y + bh - 1 < py) : elD x y bw bh t px py = false := by
  unfold elD
  rw [decide_eq_false_iff_not]
  rintro ⟨z, -⟩
  have := ov_v (by omega) (by omega) z
  omega
theorem el_1 {row x bw o : Int} (o1 : 0 ≤ o) (px py : Int) : bxB (x + (bw - o) / 2) row (x + (bw - 1 + o) / 2) row px py = elR row x bw o (-1) px py := by
  unfold bxB elR; exact decide_eq_decide.mpr (by omega)
theorem el_2 {row x bw o i : Int} (o1 : 0 ≤ i) (o2 : i ≤ o) (px py : Int) : rgB row (x + (bw - o) / 2) (x + (bw - 1 + o) / 2) (x + (bw - i) / 2) (x + (bw - 1 + i) / 2) px py = elR row x bw o i px py := by
  unfold rgB elR; exact decide_eq_decide.mpr (by omega)
/-- the end of the rows, also where the first one lies below the sheet -/
theorem rw_fin {w h mn : Int} {S pic : Int → Int → Bool} {K : Int → Int64} {row dn : Int} (q : rwI w h mn S pic K row dn) (r0 : 0 ≤ row) (h0 : 0 ≤ h) (hc : row ≤ h ∨ ∀ x y, 0 ≤ y → y < row → S x y = false) (hz : ∀ x y, row ≤ y → y < h → S x y = false) : dn = cnt w h S ∧ Rep K (drw mn (fun x y => onB w h x y && S x y) pic) := by
  by_cases e : row ≤ h
  · exact rw_end q r0 hz e
  · have z : ∀ x y, 0 ≤ y → y < row → S x y = false := hc.resolve_left e
    refine ⟨?_, ?_⟩
    · rw [q.2, sR_no (fun y a b => cR_no (fun x _ _ => z x y a (by omega)))]
      exact (cnt_no (fun x y _ _ a b => z x y a (by omega))).symm
    · rw [drw_ext (T := fun x y => onB w h x y && (S x y && decide (y < row)))]
      · exact q.1
      · intro x y
        cases o : onB w h x y
        · simp
        · have := of_decide_eq_true o
          rw [z x y (by omega) (by omega)]; simp
theorem d_D_demandBox_0 : decode c_yD_demandBox 0 = .ok (.iload_n 0, 1) := by decide +kernel
theorem d_D_demandBox_1 : decode c_yD_demandBox 1 = .ok (.invokestatic 90, 3) := by decide +kernel
theorem d_D_demandBox_4 : decode c_yD_demandBox 4 = .ok (.ifCond .eq 28, 3) := by decide +kernel
theorem d_D_demandBox_7 : decode c_yD_demandBox 7 = .ok (.iload_n 1, 1) := by decide +kernel
theorem d_D_demandBox_8 : decode c_yD_demandBox 8 = .ok (.invokestatic 90, 3) := by decide +kernel
theorem d_D_demandBox_11 : decode c_yD_demandBox 11 = .ok (.ifCond .eq 21, 3) := by decide +kernel
theorem d_D_demandBox_14 : decode c_yD_demandBox 14 = .ok (.iload_n 2, 1) := by decide +kernel
theorem d_D_demandBox_15 : decode c_yD_demandBox 15 = .ok (.invokestatic 158, 3) := by decide +kernel
theorem d_D_demandBox_18 : decode c_yD_demandBox 18 = .ok (.ifCond .eq 14, 3) := by decide +kernel
theorem d_D_demandBox_21 : decode c_yD_demandBox 21 = .ok (.iload_n 3, 1) := by decide +kernel
theorem d_D_demandBox_22 : decode c_yD_demandBox 22 = .ok (.invokestatic 158, 3) := by decide +kernel
theorem d_D_demandBox_25 : decode c_yD_demandBox 25 = .ok (.ifCond .eq 7, 3) := by decide +kernel
theorem d_D_demandBox_28 : decode c_yD_demandBox 28 = .ok (.iconst 1, 1) := by decide +kernel
theorem d_D_demandBox_29 : decode c_yD_demandBox 29 = .ok (.goto 4, 3) := by decide +kernel
theorem d_D_demandBox_32 : decode c_yD_demandBox 32 = .ok (.iconst 0, 1) := by decide +kernel
theorem d_D_demandBox_33 : decode c_yD_demandBox 33 = .ok (.invokestatic 43, 3) := by decide +kernel
theorem d_D_demandBox_36 : decode c_yD_demandBox 36 = .ok (.return_, 1) := by decide +kernel
set_option maxHeartbeats 4000000 in
set_option maxRecDepth 100000 in
theorem c_DotSheet_demandBox (l : Launch) (hnt : l.stackTraces = false) (dC : Nat → ClassId) (dI : Nat → Nat → Nat) (sa : Nat → Nat) (x y bw bh : Int) (sz : Nat) (x1 : -2147483648 ≤ x) (y1 : -2147483648 ≤ y) (bw1 : -2147483648 ≤ bw) (bh1 : -2147483648 ≤ bh) (x2 : x ≤ 2147483647) (y2 : y ≤ 2147483647) (bw2 : bw ≤ 2147483647) (bh2 : bh ≤ 2147483647) : vx_Met l y_D_demandBox w_D_demandBox ({ frames := 7, cells := 1, slots := 6, locals := 120 }) (va_Pc [.int (iZ x), .int (iZ y), .int (iZ bw), .int (iZ bh)] (zPx (dC, dI) vwCl [] [] sz sa)) (va_Qv (fun (u : Unit) => -4096 ≤ x ∧ x ≤ 4096 ∧ -4096 ≤ y ∧ y ≤ 4096 ∧ 1 ≤ bw ∧ bw ≤ 2048 ∧ 1 ≤ bh ∧ bh ≤ 2048) (fun u => zB (dC, dI) vwCl [] (va_A [] sz) []) (va_A [] sz)) (zX (fun E => E = "java/lang/IllegalArgumentException" ∧ ¬ (-4096 ≤ x ∧ x ≤ 4096 ∧ -4096 ≤ y ∧ y ≤ 4096 ∧ 1 ≤ bw ∧ bw ≤ 2048 ∧ 1 ≤ bh ∧ bh ≤ 2048)) (dC, dI) vwCl [] (va_A [] sz) []) 1 6 (va_A [] sz) := by
  refine vx_ofW (cc := c_yD_demandBox) (maxL := 4) (ret := none) (by decide) rfl ?_
  intro p e s m args below meth c s₁ B hml noEx hv
  obtain ⟨rfl, hsz, hP, hK, hD0, hXK⟩ := hv
  have hx := B.exec
  have hb := B.bytes
  have hr := B.returns
  have hts0 := atoms_spec (ws := w_D_demandBox) B.pre
  have hts : ∀ w ∈ gT, w.before _ s = true := fun w h => hts0 w (List.mem_cons_of_mem _ h)
  have hown : s.vm.findClass R_D = some m.cls := findClass_of_methodNamed B.named
  have hlocks := B.notSynchronized
  subst hsz
  have hD := hD0.self (sz := s.heap.size)
  generalize hAe : va_A [] s.heap.size = A at hD hXK ⊢
  have hA : ∀ q : Nat, s.heap.size ≤ q → A q := fun q h => by rw [← hAe]; exact Or.inr h
  obtain ⟨H, hH⟩ : ∃ H, s.heap = H := ⟨_, rfl⟩
  have hS : va_S A s.heap H [] := by rw [← hH]; exact va_S.rf
  rw [hH] at hP
  rw [hH]
  have hl := lv_entry ([.int (iZ x), .int (iZ y), .int (iZ bw), .int (iZ bh)]) (n := 4) (Nat.le_of_ble_eq_true rfl)
  rw [lg_entry_eq]
  generalize (lg_sl ([.int (iZ x), .int (iZ y), .int (iZ bw), .int (iZ bh)]) ++ List.replicate (4 - (lg_sl ([.int (iZ x), .int (iZ y), .int (iZ bw), .int (iZ bh)])).length) Slot.unset).toArray = ls at hl ⊢
  have hl : lv_has ls 4 [(0, .int (iZ x)), (1, .int (iZ y)), (2, .int (iZ bw)), (3, .int (iZ bh))] := hl
  refine lv_iload_n hx hb d_D_demandBox_0 rfl (lv_at hl 0 rfl) ?_
  refine vp_callSi (va_runS (As := [.int (iZ x)]) (rest := []) ⟨hx, hb, hml, hown, hts⟩ (c_DotSheet_isPlace l dC dI x (by first | omega | assumption) (by first | omega | assumption)) (va_cwS 1 hts (gS t_259 t_260 t_1 t_261) rfl rfl rfl (by decide +kernel) ⟨Nat.le_of_ble_eq_true rfl, Nat.le_of_ble_eq_true rfl⟩) ⟨zPr_blind, zPr_pre hP hK [] [] rfl rfl⟩ rfl rfl hl.1 rfl (lv_room (Nat.le_of_ble_eq_true rfl)) d_D_demandBox_1 ⟨Nat.le_of_ble_eq_true rfl, Nat.le_of_ble_eq_true rfl⟩).run (fun r_1 q_1 => ?_)
  obtain rfl := q_1
  refine zb_if_eq (tgt := 32) hx hb d_D_demandBox_4 (by decide) (fun c_4 => ?_) (fun c_4 => ?_)
  · have c_4 := of_decide_eq_false c_4
    refine lv_iconst (v := iZ (0)) hx hb d_D_demandBox_32 rfl ?_
    refine zx_v (w1 := fun (u_33 : Unit) => []) (wr := []) (vx_runS (As := [.int (bI false)]) (rest := []) ⟨hx, hb, hml, hown, hts⟩ (c_DotSheet_demand l hnt dC dI sa false H.size ) (va_cwS 1 hts (gS t_154 t_155 t_1 t_156) rfl rfl rfl (by decide +kernel) ⟨Nat.le_of_ble_eq_true rfl, Nat.le_of_ble_eq_true rfl⟩) ⟨zPx_blind, zPx_pre hP hD hK hXK hS hA [] [] rfl rfl rfl rfl⟩ rfl rfl hl.1 rfl (lv_room (Nat.le_of_ble_eq_true rfl)) d_D_demandBox_33 ⟨Nat.le_of_ble_eq_true rfl, Nat.le_of_ble_eq_true rfl⟩) hP hD hS hA [] [] rfl rfl rfl (by decide) (fun E_ ce_ q9_ H locs x_33 hP hD hS hce hcv hcl => ?_) (fun u_33 H locs q_33 hP hD hS => ?_)
    · have hP : va_P (dC, dI) vwCl [] H := hP
      have hD : va_D A [] := hD
      exact vx_out (fun x9 h9 => (noEx x9 h9).elim) hlocks hce hcv hcl (fun t ht ha => ⟨(), trivial, ⟨⟨x_33.1, by omega⟩, by rw [ht]; exact hP, va_K.moved ha hK, hD⟩, hS.F ht⟩) hS.2.2 (Nat.le_of_ble_eq_true rfl) (Nat.le_of_ble_eq_true rfl)
    exact absurd q_33 (by decide)
  · have c_4 := of_decide_eq_true c_4
    refine lv_iload_n hx hb d_D_demandBox_7 rfl (lv_at hl 1 rfl) ?_
    refine vp_callSi (va_runS (As := [.int (iZ y)]) (rest := []) ⟨hx, hb, hml, hown, hts⟩ (c_DotSheet_isPlace l dC dI y (by first | omega | assumption) (by first | omega | assumption)) (va_cwS 1 hts (gS t_259 t_260 t_1 t_261) rfl rfl rfl (by decide +kernel) ⟨Nat.le_of_ble_eq_true rfl, Nat.le_of_ble_eq_true rfl⟩) ⟨zPr_blind, zPr_pre hP hK [] [] rfl rfl⟩ rfl rfl hl.1 rfl (lv_room (Nat.le_of_ble_eq_true rfl)) d_D_demandBox_8 ⟨Nat.le_of_ble_eq_true rfl, Nat.le_of_ble_eq_true rfl⟩).run (fun r_8 q_8 => ?_)
    obtain rfl := q_8
    refine zb_if_eq (tgt := 32) hx hb d_D_demandBox_11 (by decide) (fun c_11 => ?_) (fun c_11 => ?_)
    · have c_11 := of_decide_eq_false c_11
      refine lv_iconst (v := iZ (0)) hx hb d_D_demandBox_32 rfl ?_
      refine zx_v (w1 := fun (u_33 : Unit) => []) (wr := []) (vx_runS (As := [.int (bI false)]) (rest := []) ⟨hx, hb, hml, hown, hts⟩ (c_DotSheet_demand l hnt dC dI sa false H.size ) (va_cwS 1 hts (gS t_154 t_155 t_1 t_156) rfl rfl rfl (by decide +kernel) ⟨Nat.le_of_ble_eq_true rfl, Nat.le_of_ble_eq_true rfl⟩) ⟨zPx_blind, zPx_pre hP hD hK hXK hS hA [] [] rfl rfl rfl rfl⟩ rfl rfl hl.1 rfl (lv_room (Nat.le_of_ble_eq_true rfl)) d_D_demandBox_33 ⟨Nat.le_of_ble_eq_true rfl, Nat.le_of_ble_eq_true rfl⟩) hP hD hS hA [] [] rfl rfl rfl (by decide) (fun E_ ce_ q9_ H locs x_33 hP hD hS hce hcv hcl => ?_) (fun u_33 H locs q_33 hP hD hS => ?_)
      · have hP : va_P (dC, dI) vwCl [] H := hP
        have hD : va_D A [] := hD
        exact vx_out (fun x9 h9 => (noEx x9 h9).elim) hlocks hce hcv hcl (fun t ht ha => ⟨(), trivial, ⟨⟨x_33.1, by omega⟩, by rw [ht]; exact hP, va_K.moved ha hK, hD⟩, hS.F ht⟩) hS.2.2 (Nat.le_of_ble_eq_true rfl) (Nat.le_of_ble_eq_true rfl)
      exact absurd q_33 (by decide)
    · have c_11 := of_decide_eq_true c_11
      refine lv_iload_n hx hb d_D_demandBox_14 rfl (lv_at hl 2 rfl) ?_
      refine vp_callSi (va_runS (As := [.int (iZ bw)]) (rest := []) ⟨hx, hb, hml, hown, hts⟩ (c_DotSheet_isSize l dC dI bw (by first | omega | assumption) (by first | omega | assumption)) (va_cwS 1 hts (gS t_262 t_263 t_1 t_264) rfl rfl rfl (by decide +kernel) ⟨Nat.le_of_ble_eq_true rfl, Nat.le_of_ble_eq_true rfl⟩) ⟨zPr_blind, zPr_pre hP hK [] [] rfl rfl⟩ rfl rfl hl.1 rfl (lv_room (Nat.le_of_ble_eq_true rfl)) d_D_demandBox_15 ⟨Nat.le_of_ble_eq_true rfl, Nat.le_of_ble_eq_true rfl⟩).run (fun r_15 q_15 => ?_)
      obtain rfl := q_15
      refine zb_if_eq (tgt := 32) hx hb d_D_demandBox_18 (by decide) (fun c_18 => ?_) (fun c_18 => ?_)
      · have c_18 := of_decide_eq_false c_18
        refine lv_iconst (v := iZ (0)) hx hb d_D_demandBox_32 rfl ?_
        refine zx_v (w1 := fun (u_33 : Unit) => []) (wr := []) (vx_runS (As := [.int (bI false)]) (rest := []) ⟨hx, hb, hml, hown, hts⟩ (c_DotSheet_demand l hnt dC dI sa false H.size ) (va_cwS 1 hts (gS t_154 t_155 t_1 t_156) rfl rfl rfl (by decide +kernel) ⟨Nat.le_of_ble_eq_true rfl, Nat.le_of_ble_eq_true rfl⟩) ⟨zPx_blind, zPx_pre hP hD hK hXK hS hA [] [] rfl rfl rfl rfl⟩ rfl rfl hl.1 rfl (lv_room (Nat.le_of_ble_eq_true rfl)) d_D_demandBox_33 ⟨Nat.le_of_ble_eq_true rfl, Nat.le_of_ble_eq_true rfl⟩) hP hD hS hA [] [] rfl rfl rfl (by decide) (fun E_ ce_ q9_ H locs x_33 hP hD hS hce hcv hcl => ?_) (fun u_33 H locs q_33 hP hD hS => ?_)
        · have hP : va_P (dC, dI) vwCl [] H := hP
          have hD : va_D A [] := hD
          exact vx_out (fun x9 h9 => (noEx x9 h9).elim) hlocks hce hcv hcl (fun t ht ha => ⟨(), trivial, ⟨⟨x_33.1, by omega⟩, by rw [ht]; exact hP, va_K.moved ha hK, hD⟩, hS.F ht⟩) hS.2.2 (Nat.le_of_ble_eq_true rfl) (Nat.le_of_ble_eq_true rfl)
        exact absurd q_33 (by decide)
      · have c_18 := of_decide_eq_true c_18
        refine lv_iload_n hx hb d_D_demandBox_21 rfl (lv_at hl 3 rfl) ?_
        refine vp_callSi (va_runS (As := [.int (iZ bh)]) (rest := []) ⟨hx, hb, hml, hown, hts⟩ (c_DotSheet_isSize l dC dI bh (by first | omega | assumption) (by first | omega | assumption)) (va_cwS 1 hts (gS t_262 t_263 t_1 t_264) rfl rfl rfl (by decide +kernel) ⟨Nat.le_of_ble_eq_true rfl, Nat.le_of_ble_eq_true rfl⟩) ⟨zPr_blind, zPr_pre hP hK [] [] rfl rfl⟩ rfl rfl hl.1 rfl (lv_room (Nat.le_of_ble_eq_true rfl)) d_D_demandBox_22 ⟨Nat.le_of_ble_eq_true rfl, Nat.le_of_ble_eq_true rfl⟩).run (fun r_22 q_22 => ?_)
        obtain rfl := q_22
        refine zb_if_eq (tgt := 32) hx hb d_D_demandBox_25 (by decide) (fun c_25 => ?_) (fun c_25 => ?_)
        · have c_25 := of_decide_eq_false c_25
          refine lv_iconst (v := iZ (0)) hx hb d_D_demandBox_32 rfl ?_
          refine zx_v (w1 := fun (u_33 : Unit) => []) (wr := []) (vx_runS (As := [.int (bI false)]) (rest := []) ⟨hx, hb, hml, hown, hts⟩ (c_DotSheet_demand l hnt dC dI sa false H.size ) (va_cwS 1 hts (gS t_154 t_155 t_1 t_156) rfl rfl rfl (by decide +kernel) ⟨Nat.le_of_ble_eq_true rfl, Nat.le_of_ble_eq_true rfl⟩) ⟨zPx_blind, zPx_pre hP hD hK hXK hS hA [] [] rfl rfl rfl rfl⟩ rfl rfl hl.1 rfl (lv_room (Nat.le_of_ble_eq_true rfl)) d_D_demandBox_33 ⟨Nat.le_of_ble_eq_true rfl, Nat.le_of_ble_eq_true rfl⟩) hP hD hS hA [] [] rfl rfl rfl (by decide) (fun E_ ce_ q9_ H locs x_33 hP hD hS hce hcv hcl => ?_) (fun u_33 H locs q_33 hP hD hS => ?_)
          · have hP : va_P (dC, dI) vwCl [] H := hP
            have hD : va_D A [] := hD
            exact vx_out (fun x9 h9 => (noEx x9 h9).elim) hlocks hce hcv hcl (fun t ht ha => ⟨(), trivial, ⟨⟨x_33.1, by omega⟩, by rw [ht]; exact hP, va_K.moved ha hK, hD⟩, hS.F ht⟩) hS.2.2 (Nat.le_of_ble_eq_true rfl) (Nat.le_of_ble_eq_true rfl)
          exact absurd q_33 (by decide)
        · have c_25 := of_decide_eq_true c_25
          refine lv_iconst (v := iZ (1)) hx hb d_D_demandBox_28 rfl ?_
          refine lv_goto (tgt := 33) hx hb d_D_demandBox_29 (by decide) ?_
          refine zx_v (w1 := fun (u_33 : Unit) => []) (wr := []) (vx_runS (As := [.int (bI true)]) (rest := []) ⟨hx, hb, hml, hown, hts⟩ (c_DotSheet_demand l hnt dC dI sa true H.size ) (va_cwS 1 hts (gS t_154 t_155 t_1 t_156) rfl rfl rfl (by decide +kernel) ⟨Nat.le_of_ble_eq_true rfl, Nat.le_of_ble_eq_true rfl⟩) ⟨zPx_blind, zPx_pre hP hD hK hXK hS hA [] [] rfl rfl rfl rfl⟩ rfl rfl hl.1 rfl (lv_room (Nat.le_of_ble_eq_true rfl)) d_D_demandBox_33 ⟨Nat.le_of_ble_eq_true rfl, Nat.le_of_ble_eq_true rfl⟩) hP hD hS hA [] [] rfl rfl rfl (by decide) (fun E_ ce_ q9_ H locs x_33 hP hD hS hce hcv hcl => ?_) (fun u_33 H locs q_33 hP hD hS => ?_)
          · exact absurd x_33.2 (by decide)
          have hP : va_P (dC, dI) vwCl [] H := hP
          have hD : va_D A [] := hD
          refine vx_ret ?_
          exact W.vret hx hb hr (fun t ht hW => ⟨⟨(()), rfl, by omega, by rw [ht]; exact hP, va_K.moved hW.alike hK, hD⟩, hS.F ht⟩) hS.2.2 d_D_demandBox_36
theorem d_D_demandCorner_0 : decode c_yD_demandCorner 0 = .ok (.iload_n 0, 1) := by decide +kernel
theorem d_D_demandCorner_1 : decode c_yD_demandCorner 1 = .ok (.invokestatic 90, 3) := by decide +kernel
theorem d_D_demandCorner_4 : decode c_yD_demandCorner 4 = .ok (.ifCond .eq 21, 3) := by decide +kernel
theorem d_D_demandCorner_7 : decode c_yD_demandCorner 7 = .ok (.iload_n 1, 1) := by decide +kernel
theorem d_D_demandCorner_8 : decode c_yD_demandCorner 8 = .ok (.invokestatic 90, 3) := by decide +kernel
theorem d_D_demandCorner_11 : decode c_yD_demandCorner 11 = .ok (.ifCond .eq 14, 3) := by decide +kernel
theorem d_D_demandCorner_14 : decode c_yD_demandCorner 14 = .ok (.iload_n 2, 1) := by decide +kernel
theorem d_D_demandCorner_15 : decode c_yD_demandCorner 15 = .ok (.invokestatic 174, 3) := by decide +kernel
theorem d_D_demandCorner_18 : decode c_yD_demandCorner 18 = .ok (.ifCond .eq 7, 3) := by decide +kernel
theorem d_D_demandCorner_21 : decode c_yD_demandCorner 21 = .ok (.iconst 1, 1) := by decide +kernel
theorem d_D_demandCorner_22 : decode c_yD_demandCorner 22 = .ok (.goto 4, 3) := by decide +kernel
theorem d_D_demandCorner_25 : decode c_yD_demandCorner 25 = .ok (.iconst 0, 1) := by decide +kernel
theorem d_D_demandCorner_26 : decode c_yD_demandCorner 26 = .ok (.invokestatic 43, 3) := by decide +kernel
theorem d_D_demandCorner_29 : decode c_yD_demandCorner 29 = .ok (.return_, 1) := by decide +kernel
set_option maxHeartbeats 4000000 in
set_option maxRecDepth 100000 in
theorem c_DotSheet_demandCorner (l : Launch) (hnt : l.stackTraces = false) (dC : Nat → ClassId) (dI : Nat → Nat → Nat) (sa : Nat → Nat) (x y qr : Int) (sz : Nat) (x1 : -2147483648 ≤ x) (y1 : -2147483648 ≤ y) (qr1 : -2147483648 ≤ qr) (x2 : x ≤ 2147483647) (y2 : y ≤ 2147483647) (qr2 : qr ≤ 2147483647) : vx_Met l y_D_demandCorner w_D_demandCorner ({ frames := 7, cells := 1, slots := 6, locals := 120 }) (va_Pc [.int (iZ x), .int (iZ y), .int (iZ qr)] (zPx (dC, dI) vwCl [] [] sz sa)) (va_Qv (fun (u : Unit) => -4096 ≤ x ∧ x ≤ 4096 ∧ -4096 ≤ y ∧ y ≤ 4096 ∧ 0 ≤ qr ∧ qr ≤ 3) (fun u => zB (dC, dI) vwCl [] (va_A [] sz) []) (va_A [] sz)) (zX (fun E => E = "java/lang/IllegalArgumentException" ∧ ¬ (-4096 ≤ x ∧ x ≤ 4096 ∧ -4096 ≤ y ∧ y ≤ 4096 ∧ 0 ≤ qr ∧ qr ≤ 3)) (dC, dI) vwCl [] (va_A [] sz) []) 1 6 (va_A [] sz) := by
  refine vx_ofW (cc := c_yD_demandCorner) (maxL := 3) (ret := none) (by decide) rfl ?_
  intro p e s m args below meth c s₁ B hml noEx hv
  obtain ⟨rfl, hsz, hP, hK, hD0, hXK⟩ := hv
  have hx := B.exec
  have hb := B.bytes
  have hr := B.returns
  have hts0 := atoms_spec (ws := w_D_demandCorner) B.pre
  have hts : ∀ w ∈ gT, w.before _ s = true := fun w h => hts0 w (List.mem_cons_of_mem _ h)
  have hown : s.vm.findClass R_D = some m.cls := findClass_of_methodNamed B.named
  have hlocks := B.notSynchronized
  subst hsz
  have hD := hD0.self (sz := s.heap.size)
  generalize hAe : va_A [] s.heap.size = A at hD hXK ⊢
  have hA : ∀ q : Nat, s.heap.size ≤ q → A q := fun q h => by rw [← hAe]; exact Or.inr h
  obtain ⟨H, hH⟩ : ∃ H, s.heap = H := ⟨_, rfl⟩
  have hS : va_S A s.heap H [] := by rw [← hH]; exact va_S.rf
  rw [hH] at hP
  rw [hH]
  have hl := lv_entry ([.int (iZ x), .int (iZ y), .int (iZ qr)]) (n := 3) (Nat.le_of_ble_eq_true rfl)
  rw [lg_entry_eq]
  generalize (lg_sl ([.int (iZ x), .int (iZ y), .int (iZ qr)]) ++ List.replicate (3 - (lg_sl ([.int (iZ x), .int (iZ y), .int (iZ qr)])).length) Slot.unset).toArray = ls at hl ⊢
  have hl : lv_has ls 3 [(0, .int (iZ x)), (1, .int (iZ y)), (2, .int (iZ qr))] := hl
  refine lv_iload_n hx hb d_D_demandCorner_0 rfl (lv_at hl 0 rfl) ?_
  refine vp_callSi (va_runS (As := [.int (iZ x)]) (rest := []) ⟨hx, hb, hml, hown, hts⟩ (c_DotSheet_isPlace l dC dI x (by first | omega | assumption) (by first | omega | assumption)) (va_cwS 1 hts (gS t_259 t_260 t_1 t_261) rfl rfl rfl (by decide +kernel) ⟨Nat.le_of_ble_eq_true rfl, Nat.le_of_ble_eq_true rfl⟩) ⟨zPr_blind, zPr_pre hP hK [] [] rfl rfl⟩ rfl rfl hl.1 rfl (lv_room (Nat.le_of_ble_eq_true rfl)) d_D_demandCorner_1 ⟨Nat.le_of_ble_eq_true rfl, Nat.le_of_ble_eq_true rfl⟩).run (fun r_1 q_1 => ?_)
  obtain rfl := q_1
  refine zb_if_eq (tgt := 25) hx hb d_D_demandCorner_4 (by decide) (fun c_4 => ?_) (fun c_4 => ?_)
  · have c_4 := of_decide_eq_false c_4
    refine lv_iconst (v := iZ (0)) hx hb d_D_demandCorner_25 rfl ?_
    refine zx_v (w1 := fun (u_26 : Unit) => []) (wr := []) (vx_runS (As := [.int (bI false)]) (rest := []) ⟨hx, hb, hml, hown, hts⟩ (c_DotSheet_demand l hnt dC dI sa false H.size ) (va_cwS 1 hts (gS t_154 t_155 t_1 t_156) rfl rfl rfl (by decide +kernel) ⟨Nat.le_of_ble_eq_true rfl, Nat.le_of_ble_eq_true rfl⟩) ⟨zPx_blind, zPx_pre hP hD hK hXK hS hA [] [] rfl rfl rfl rfl⟩ rfl rfl hl.1 rfl (lv_room (Nat.le_of_ble_eq_true rfl)) d_D_demandCorner_26 ⟨Nat.le_of_ble_eq_true rfl, Nat.le_of_ble_eq_true rfl⟩) hP hD hS hA [] [] rfl rfl rfl (by decide) (fun E_ ce_ q9_ H locs x_26 hP hD hS hce hcv hcl => ?_) (fun u_26 H locs q_26 hP hD hS => ?_)
    · have hP : va_P (dC, dI) vwCl [] H := hP
      have hD : va_D A [] := hD
      exact vx_out (fun x9 h9 => (noEx x9 h9).elim) hlocks hce hcv hcl (fun t ht ha => ⟨(), trivial, ⟨⟨x_26.1, by omega⟩, by rw [ht]; exact hP, va_K.moved ha hK, hD⟩, hS.F ht⟩) hS.2.2 (Nat.le_of_ble_eq_true rfl) (Nat.le_of_ble_eq_true rfl)
    exact absurd q_26 (by decide)
  · have c_4 := of_decide_eq_true c_4
    refine lv_iload_n hx hb d_D_demandCorner_7 rfl (lv_at hl 1 rfl) ?_
    refine vp_callSi (va_runS (As := [.int (iZ y)]) (rest := []) ⟨hx, hb, hml, hown, hts⟩ (c_DotSheet_isPlace l dC dI y (by first | omega | assumption) (by first | omega | assumption)) (va_cwS 1 hts (gS t_259 t_260 t_1 t_261) rfl rfl rfl (by decide +kernel) ⟨Nat.le_of_ble_eq_true rfl, Nat.le_of_ble_eq_true rfl⟩) ⟨zPr_blind, zPr_pre hP hK [] [] rfl rfl⟩ rfl rfl hl.1 rfl (lv_room (Nat.le_of_ble_eq_true rfl)) d_D_demandCorner_8 ⟨Nat.le_of_ble_eq_true rfl, Nat.le_of_ble_eq_true rfl⟩).run (fun r_8 q_8 => ?_)
    obtain rfl := q_8
    refine zb_if_eq (tgt := 25) hx hb d_D_demandCorner_11 (by decide) (fun c_11 => ?_) (fun c_11 => ?_)
    · have c_11 := of_decide_eq_false c_11
      refine lv_iconst (v := iZ (0)) hx hb d_D_demandCorner_25 rfl ?_
      refine zx_v (w1 := fun (u_26 : Unit) => []) (wr := []) (vx_runS (As := [.int (bI false)]) (rest := []) ⟨hx, hb, hml, hown, hts⟩ (c_DotSheet_demand l hnt dC dI sa false H.size ) (va_cwS 1 hts (gS t_154 t_155 t_1 t_156) rfl rfl rfl (by decide +kernel) ⟨Nat.le_of_ble_eq_true rfl, Nat.le_of_ble_eq_true rfl⟩) ⟨zPx_blind, zPx_pre hP hD hK hXK hS hA [] [] rfl rfl rfl rfl⟩ rfl rfl hl.1 rfl (lv_room (Nat.le_of_ble_eq_true rfl)) d_D_demandCorner_26 ⟨Nat.le_of_ble_eq_true rfl, Nat.le_of_ble_eq_true rfl⟩) hP hD hS hA [] [] rfl rfl rfl (by decide) (fun E_ ce_ q9_ H locs x_26 hP hD hS hce hcv hcl => ?_) (fun u_26 H locs q_26 hP hD hS => ?_)
      · have hP : va_P (dC, dI) vwCl [] H := hP
        have hD : va_D A [] := hD
        exact vx_out (fun x9 h9 => (noEx x9 h9).elim) hlocks hce hcv hcl (fun t ht ha => ⟨(), trivial, ⟨⟨x_26.1, by omega⟩, by rw [ht]; exact hP, va_K.moved ha hK, hD⟩, hS.F ht⟩) hS.2.2 (Nat.le_of_ble_eq_true rfl) (Nat.le_of_ble_eq_true rfl)
      exact absurd q_26 (by decide)
    · have c_11 := of_decide_eq_true c_11
      refine lv_iload_n hx hb d_D_demandCorner_14 rfl (lv_at hl 2 rfl) ?_
      refine vp_callSi (va_runS (As := [.int (iZ qr)]) (rest := []) ⟨hx, hb, hml, hown, hts⟩ (c_DotSheet_isQuarter l dC dI qr (by first | omega | assumption) (by first | omega | assumption)) (va_cwS 1 hts (gS t_470 t_471 t_1 t_472) rfl rfl rfl (by decide +kernel) ⟨Nat.le_of_ble_eq_true rfl, Nat.le_of_ble_eq_true rfl⟩) ⟨zPr_blind, zPr_pre hP hK [] [] rfl rfl⟩ rfl rfl hl.1 rfl (lv_room (Nat.le_of_ble_eq_true rfl)) d_D_demandCorner_15 ⟨Nat.le_of_ble_eq_true rfl, Nat.le_of_ble_eq_true rfl⟩).run (fun r_15 q_15 => ?_)
      obtain rfl := q_15
      refine zb_if_eq (tgt := 25) hx hb d_D_demandCorner_18 (by decide) (fun c_18 => ?_) (fun c_18 => ?_)
      · have c_18 := of_decide_eq_false c_18
        refine lv_iconst (v := iZ (0)) hx hb d_D_demandCorner_25 rfl ?_
        refine zx_v (w1 := fun (u_26 : Unit) => []) (wr := []) (vx_runS (As := [.int (bI false)]) (rest := []) ⟨hx, hb, hml, hown, hts⟩ (c_DotSheet_demand l hnt dC dI sa false H.size ) (va_cwS 1 hts (gS t_154 t_155 t_1 t_156) rfl rfl rfl (by decide +kernel) ⟨Nat.le_of_ble_eq_true rfl, Nat.le_of_ble_eq_true rfl⟩) ⟨zPx_blind, zPx_pre hP hD hK hXK hS hA [] [] rfl rfl rfl rfl⟩ rfl rfl hl.1 rfl (lv_room (Nat.le_of_ble_eq_true rfl)) d_D_demandCorner_26 ⟨Nat.le_of_ble_eq_true rfl, Nat.le_of_ble_eq_true rfl⟩) hP hD hS hA [] [] rfl rfl rfl (by decide) (fun E_ ce_ q9_ H locs x_26 hP hD hS hce hcv hcl => ?_) (fun u_26 H locs q_26 hP hD hS => ?_)
        · have hP : va_P (dC, dI) vwCl [] H := hP
          have hD : va_D A [] := hD
          exact vx_out (fun x9 h9 => (noEx x9 h9).elim) hlocks hce hcv hcl (fun t ht ha => ⟨(), trivial, ⟨⟨x_26.1, by omega⟩, by rw [ht]; exact hP, va_K.moved ha hK, hD⟩, hS.F ht⟩) hS.2.2 (Nat.le_of_ble_eq_true rfl) (Nat.le_of_ble_eq_true rfl)
        exact absurd q_26 (by decide)
      · have c_18 := of_decide_eq_true c_18
        refine lv_iconst (v := iZ (1)) hx hb d_D_demandCorner_21 rfl ?_
        refine lv_goto (tgt := 26) hx hb d_D_demandCorner_22 (by decide) ?_
        refine zx_v (w1 := fun (u_26 : Unit) => []) (wr := []) (vx_runS (As := [.int (bI true)]) (rest := []) ⟨hx, hb, hml, hown, hts⟩ (c_DotSheet_demand l hnt dC dI sa true H.size ) (va_cwS 1 hts (gS t_154 t_155 t_1 t_156) rfl rfl rfl (by decide +kernel) ⟨Nat.le_of_ble_eq_true rfl, Nat.le_of_ble_eq_true rfl⟩) ⟨zPx_blind, zPx_pre hP hD hK hXK hS hA [] [] rfl rfl rfl rfl⟩ rfl rfl hl.1 rfl (lv_room (Nat.le_of_ble_eq_true rfl)) d_D_demandCorner_26 ⟨Nat.le_of_ble_eq_true rfl, Nat.le_of_ble_eq_true rfl⟩) hP hD hS hA [] [] rfl rfl rfl (by decide) (fun E_ ce_ q9_ H locs x_26 hP hD hS hce hcv hcl => ?_) (fun u_26 H locs q_26 hP hD hS => ?_)
        · exact absurd x_26.2 (by decide)
        have hP : va_P (dC, dI) vwCl [] H := hP
        have hD : va_D A [] := hD
        refine vx_ret ?_
        exact W.vret hx hb hr (fun t ht hW => ⟨⟨(()), rfl, by omega, by rw [ht]; exact hP, va_K.moved hW.alike hK, hD⟩, hS.F ht⟩) hS.2.2 d_D_demandCorner_29
theorem d_D_sheet_0 : decode c_yD_sheet 0 = .ok (.iload_n 1, 1) := by decide +kernel
theorem d_D_sheet_1 : decode c_yD_sheet 1 = .ok (.iconst 1, 1) := by decide +kernel
theorem d_D_sheet_2 : decode c_yD_sheet 2 = .ok (.sipush 1024, 3) := by decide +kernel
theorem d_D_sheet_5 : decode c_yD_sheet 5 = .ok (.invokestatic 39, 3) := by decide +kernel
theorem d_D_sheet_8 : decode c_yD_sheet 8 = .ok (.ifCond .eq 18, 3) := by decide +kernel
theorem d_D_sheet_11 : decode c_yD_sheet 11 = .ok (.iload_n 2, 1) := by decide +kernel
theorem d_D_sheet_12 : decode c_yD_sheet 12 = .ok (.iconst 1, 1) := by decide +kernel
theorem d_D_sheet_13 : decode c_yD_sheet 13 = .ok (.sipush 1024, 3) := by decide +kernel
theorem d_D_sheet_16 : decode c_yD_sheet 16 = .ok (.invokestatic 39, 3) := by decide +kernel
theorem d_D_sheet_19 : decode c_yD_sheet 19 = .ok (.ifCond .eq 7, 3) := by decide +kernel
theorem d_D_sheet_22 : decode c_yD_sheet 22 = .ok (.iconst 1, 1) := by decide +kernel
theorem d_D_sheet_23 : decode c_yD_sheet 23 = .ok (.goto 4, 3) := by decide +kernel
theorem d_D_sheet_26 : decode c_yD_sheet 26 = .ok (.iconst 0, 1) := by decide +kernel
theorem d_D_sheet_27 : decode c_yD_sheet 27 = .ok (.invokestatic 43, 3) := by decide +kernel
theorem d_D_sheet_30 : decode c_yD_sheet 30 = .ok (.aload_n 0, 1) := by decide +kernel
theorem d_D_sheet_31 : decode c_yD_sheet 31 = .ok (.getfield 10, 3) := by decide +kernel
theorem d_D_sheet_34 : decode c_yD_sheet 34 = .ok (.iload_n 1, 1) := by decide +kernel
theorem d_D_sheet_35 : decode c_yD_sheet 35 = .ok (.iload_n 2, 1) := by decide +kernel
theorem d_D_sheet_36 : decode c_yD_sheet 36 = .ok (.invokevirtual 47, 3) := by decide +kernel
theorem d_D_sheet_39 : decode c_yD_sheet 39 = .ok (.return_, 1) := by decide +kernel
set_option maxHeartbeats 4000000 in
set_option maxRecDepth 100000 in
theorem c_DotSheet_sheet (l : Launch) (hnt : l.stackTraces = false) (dC : Nat → ClassId) (dI : Nat → Nat → Nat) (sa : Nat → Nat) (hx_ hst hd hfa hp hw hs hk : Nat) (cL : ClassId) (w h mn : Int) (G : Int → Int64) (nw nh : Int) (sz : Nat) (nw1 : -2147483648 ≤ nw) (nh1 : -2147483648 ≤ nh) (nw2 : nw ≤ 2147483647) (nh2 : nh ≤ 2147483647) : vx_Met l y_D_sheet w_D_sheet ({ frames := 7, cells := 1, slots := 6, locals := 120 }) (va_Pc [.ref hx_, .int (iZ nw), .int (iZ nh)] (zPx (dC, dI) vwCl [(hx_, .inr (4, [.ref hp, .ref hst, .ref hd, .ref hfa])), (hp, .inr (2, [.int (iZ w), .int (iZ h), .int (iZ mn), .ref hw, .ref hs, .ref hk])), (hw, .inl (cL, 16384, .inr (.inl (aL G))))] [(cL, .long)] sz sa)) (va_Qv (fun (u : Int → Int64) => (1 ≤ nw ∧ nw ≤ 1024 ∧ 1 ≤ nh ∧ nh ≤ 1024) ∧ Rep u (fun _ _ => false)) (fun u => zB (dC, dI) vwCl [(cL, .long)] (va_A [(hx_, .inr (4, [.ref hp, .ref hst, .ref hd, .ref hfa])), (hp, .inr (2, [.int (iZ w), .int (iZ h), .int (iZ mn), .ref hw, .ref hs, .ref hk])), (hw, .inl (cL, 16384, .inr (.inl (aL G))))] sz) [(hx_, .inr (4, [.ref hp, .ref hst, .ref hd, .ref hfa])), (hp, .inr (2, [.int (iZ nw), .int (iZ nh), .int (iZ mn), .ref hw, .ref hs, .ref hk])), (hw, .inl (cL, 16384, .inr (.inl (aL u))))]) (va_A [(hx_, .inr (4, [.ref hp, .ref hst, .ref hd, .ref hfa])), (hp, .inr (2, [.int (iZ w), .int (iZ h), .int (iZ mn), .ref hw, .ref hs, .ref hk])), (hw, .inl (cL, 16384, .inr (.inl (aL G))))] sz)) (zX (fun E => E = "java/lang/IllegalArgumentException" ∧ ¬ (1 ≤ nw ∧ nw ≤ 1024 ∧ 1 ≤ nh ∧ nh ≤ 1024)) (dC, dI) vwCl [(cL, .long)] (va_A [(hx_, .inr (4, [.ref hp, .ref hst, .ref hd, .ref hfa])), (hp, .inr (2, [.int (iZ w), .int (iZ h), .int (iZ mn), .ref hw, .ref hs, .ref hk])), (hw, .inl (cL, 16384, .inr (.inl (aL G))))] sz) [(hx_, .inr (4, [.ref hp, .ref hst, .ref hd, .ref hfa])), (hp, .inr (2, [.int (iZ w), .int (iZ h), .int (iZ mn), .ref hw, .ref hs, .ref hk])), (hw, .inl (cL, 16384, .inr (.inl (aL G))))]) 1 6 (va_A [(hx_, .inr (4, [.ref hp, .ref hst, .ref hd, .ref hfa])), (hp, .inr (2, [.int (iZ w), .int (iZ h), .int (iZ mn), .ref hw, .ref hs, .ref hk])), (hw, .inl (cL, 16384, .inr (.inl (aL G))))] sz) := by
  refine vx_ofW (cc := c_yD_sheet) (maxL := 3) (ret := none) (by decide) rfl ?_
  intro p e s m args below meth c s₁ B hml noEx hv
  obtain ⟨rfl, hsz, hP, hK, hD0, hXK⟩ := hv
  have hx := B.exec
  have hb := B.bytes
  have hr := B.returns
  have hts0 := atoms_spec (ws := w_D_sheet) B.pre
  have hts : ∀ w ∈ gT, w.before _ s = true := fun w h => hts0 w (List.mem_cons_of_mem _ h)
  have hown : s.vm.findClass R_D = some m.cls := findClass_of_methodNamed B.named
  have hlocks := B.notSynchronized
  subst hsz
  have hD := hD0.self (sz := s.heap.size)
  generalize hAe : va_A [(hx_, .inr (4, [.ref hp, .ref hst, .ref hd, .ref hfa])), (hp, .inr (2, [.int (iZ w), .int (iZ h), .int (iZ mn), .ref hw, .ref hs, .ref hk])), (hw, .inl (cL, 16384, .inr (.inl (aL G))))] s.heap.size = A at hD hXK ⊢
  have hA : ∀ q : Nat, s.heap.size ≤ q → A q := fun q h => by rw [← hAe]; exact Or.inr h
  obtain ⟨H, hH⟩ : ∃ H, s.heap = H := ⟨_, rfl⟩
  have hS : va_S A s.heap H [] := by rw [← hH]; exact va_S.rf
  rw [hH] at hP
  rw [hH]
  have hl := lv_entry ([.ref hx_, .int (iZ nw), .int (iZ nh)]) (n := 3) (Nat.le_of_ble_eq_true rfl)
  rw [lg_entry_eq]
  generalize (lg_sl ([.ref hx_, .int (iZ nw), .int (iZ nh)]) ++ List.replicate (3 - (lg_sl ([.ref hx_, .int (iZ nw), .int (iZ nh)])).length) Slot.unset).toArray = ls at hl ⊢
  have hl : lv_has ls 3 [(0, .ref hx_), (1, .int (iZ nw)), (2, .int (iZ nh))] := hl
  refine lv_iload_n hx hb d_D_sheet_0 rfl (lv_at hl 1 rfl) ?_
  refine lv_iconst (v := iZ (1)) hx hb d_D_sheet_1 rfl ?_
  refine lv_sipush (v := iZ (1024)) hx hb d_D_sheet_2 (by decide) ?_
  refine vp_callSi (va_runS (As := [.int (iZ nw), .int (iZ 1), .int (iZ 1024)]) (rest := []) ⟨hx, hb, hml, hown, hts⟩ (c_DotSheet_isWithin l dC dI nw 1 1024 (by first | omega | assumption) (by first | omega | assumption) (by first | omega | assumption) (by first | omega | assumption) (by first | omega | assumption) (by first | omega | assumption)) (va_cwS 3 hts (gS t_151 t_152 t_1 t_153) rfl rfl rfl (by decide +kernel) ⟨Nat.le_of_ble_eq_true rfl, Nat.le_of_ble_eq_true rfl⟩) ⟨zPr_blind, zPr_pre hP hK [] [] rfl rfl⟩ rfl rfl hl.1 rfl (lv_room (Nat.le_of_ble_eq_true rfl)) d_D_sheet_5 ⟨Nat.le_of_ble_eq_true rfl, Nat.le_of_ble_eq_true rfl⟩).run (fun r_5 q_5 => ?_)
  obtain rfl := q_5
  refine zb_if_eq (tgt := 26) hx hb d_D_sheet_8 (by decide) (fun c_8 => ?_) (fun c_8 => ?_)
  · have c_8 := of_decide_eq_false c_8
    refine lv_iconst (v := iZ (0)) hx hb d_D_sheet_26 rfl ?_
    refine zx_v (w1 := fun (u_27 : Unit) => []) (wr := [(hx_, .inr (4, [.ref hp, .ref hst, .ref hd, .ref hfa])), (hp, .inr (2, [.int (iZ w), .int (iZ h), .int (iZ mn), .ref hw, .ref hs, .ref hk])), (hw, .inl (cL, 16384, .inr (.inl (aL G))))]) (vx_runS (As := [.int (bI false)]) (rest := []) ⟨hx, hb, hml, hown, hts⟩ (c_DotSheet_demand l hnt dC dI sa false H.size ) (va_cwS 1 hts (gS t_154 t_155 t_1 t_156) rfl rfl rfl (by decide +kernel) ⟨Nat.le_of_ble_eq_true rfl, Nat.le_of_ble_eq_true rfl⟩) ⟨zPx_blind, zPx_pre hP hD hK hXK hS hA [] [] rfl rfl rfl rfl⟩ rfl rfl hl.1 rfl (lv_room (Nat.le_of_ble_eq_true rfl)) d_D_sheet_27 ⟨Nat.le_of_ble_eq_true rfl, Nat.le_of_ble_eq_true rfl⟩) hP hD hS hA [] [0, 1, 2] rfl rfl rfl (by decide) (fun E_ ce_ q9_ H locs x_27 hP hD hS hce hcv hcl => ?_) (fun u_27 H locs q_27 hP hD hS => ?_)
    · have hP : va_P (dC, dI) vwCl [(hx_, .inr (4, [.ref hp, .ref hst, .ref hd, .ref hfa])), (hp, .inr (2, [.int (iZ w), .int (iZ h), .int (iZ mn), .ref hw, .ref hs, .ref hk])), (hw, .inl (cL, 16384, .inr (.inl (aL G))))] H := hP
      have hD : va_D A [(hx_, .inr (4, [.ref hp, .ref hst, .ref hd, .ref hfa])), (hp, .inr (2, [.int (iZ w), .int (iZ h), .int (iZ mn), .ref hw, .ref hs, .ref hk])), (hw, .inl (cL, 16384, .inr (.inl (aL G))))] := hD
      exact vx_out (fun x9 h9 => (noEx x9 h9).elim) hlocks hce hcv hcl (fun t ht ha => ⟨(), trivial, ⟨⟨x_27.1, by omega⟩, by rw [ht]; exact hP, va_K.moved ha hK, hD⟩, hS.F ht⟩) hS.2.2 (Nat.le_of_ble_eq_true rfl) (Nat.le_of_ble_eq_true rfl)
    exact absurd q_27 (by decide)
  · have c_8 := of_decide_eq_true c_8
    refine lv_iload_n hx hb d_D_sheet_11 rfl (lv_at hl 2 rfl) ?_
    refine lv_iconst (v := iZ (1)) hx hb d_D_sheet_12 rfl ?_
    refine lv_sipush (v := iZ (1024)) hx hb d_D_sheet_13 (by decide) ?_
    refine vp_callSi (va_runS (As := [.int (iZ nh), .int (iZ 1), .int (iZ 1024)]) (rest := []) ⟨hx, hb, hml, hown, hts⟩ (c_DotSheet_isWithin l dC dI nh 1 1024 (by first | omega | assumption) (by first | omega | assumption) (by first | omega | assumption) (by first | omega | assumption) (by first | omega | assumption) (by first | omega | assumption)) (va_cwS 3 hts (gS t_151 t_152 t_1 t_153) rfl rfl rfl (by decide +kernel) ⟨Nat.le_of_ble_eq_true rfl, Nat.le_of_ble_eq_true rfl⟩) ⟨zPr_blind, zPr_pre hP hK [] [] rfl rfl⟩ rfl rfl hl.1 rfl (lv_room (Nat.le_of_ble_eq_true rfl)) d_D_sheet_16 ⟨Nat.le_of_ble_eq_true rfl, Nat.le_of_ble_eq_true rfl⟩).run (fun r_16 q_16 => ?_)
    obtain rfl := q_16
    refine zb_if_eq (tgt := 26) hx hb d_D_sheet_19 (by decide) (fun c_19 => ?_) (fun c_19 => ?_)
    · have c_19 := of_decide_eq_false c_19
      refine lv_iconst (v := iZ (0)) hx hb d_D_sheet_26 rfl ?_
      refine zx_v (w1 := fun (u_27 : Unit) => []) (wr := [(hx_, .inr (4, [.ref hp, .ref hst, .ref hd, .ref hfa])), (hp, .inr (2, [.int (iZ w), .int (iZ h), .int (iZ mn), .ref hw, .ref hs, .ref hk])), (hw, .inl (cL, 16384, .inr (.inl (aL G))))]) (vx_runS (As := [.int (bI false)]) (rest := []) ⟨hx, hb, hml, hown, hts⟩ (c_DotSheet_demand l hnt dC dI sa false H.size ) (va_cwS 1 hts (gS t_154 t_155 t_1 t_156) rfl rfl rfl (by decide +kernel) ⟨Nat.le_of_ble_eq_true rfl, Nat.le_of_ble_eq_true rfl⟩) ⟨zPx_blind, zPx_pre hP hD hK hXK hS hA [] [] rfl rfl rfl rfl⟩ rfl rfl hl.1 rfl (lv_room (Nat.le_of_ble_eq_true rfl)) d_D_sheet_27 ⟨Nat.le_of_ble_eq_true rfl, Nat.le_of_ble_eq_true rfl⟩) hP hD hS hA [] [0, 1, 2] rfl rfl rfl (by decide) (fun E_ ce_ q9_ H locs x_27 hP hD hS hce hcv hcl => ?_) (fun u_27 H locs q_27 hP hD hS => ?_)
      · have hP : va_P (dC, dI) vwCl [(hx_, .inr (4, [.ref hp, .ref hst, .ref hd, .ref hfa])), (hp, .inr (2, [.int (iZ w), .int (iZ h), .int (iZ mn), .ref hw, .ref hs, .ref hk])), (hw, .inl (cL, 16384, .inr (.inl (aL G))))] H := hP
        have hD : va_D A [(hx_, .inr (4, [.ref hp, .ref hst, .ref hd, .ref hfa])), (hp, .inr (2, [.int (iZ w), .int (iZ h), .int (iZ mn), .ref hw, .ref hs, .ref hk])), (hw, .inl (cL, 16384, .inr (.inl (aL G))))] := hD
        exact vx_out (fun x9 h9 => (noEx x9 h9).elim) hlocks hce hcv hcl (fun t ht ha => ⟨(), trivial, ⟨⟨x_27.1, by omega⟩, by rw [ht]; exact hP, va_K.moved ha hK, hD⟩, hS.F ht⟩) hS.2.2 (Nat.le_of_ble_eq_true rfl) (Nat.le_of_ble_eq_true rfl)
      exact absurd q_27 (by decide)
    · have c_19 := of_decide_eq_true c_19
      refine lv_iconst (v := iZ (1)) hx hb d_D_sheet_22 rfl ?_
      refine lv_goto (tgt := 27) hx hb d_D_sheet_23 (by decide) ?_
      refine zx_v (w1 := fun (u_27 : Unit) => []) (wr := [(hx_, .inr (4, [.ref hp, .ref hst, .ref hd, .ref hfa])), (hp, .inr (2, [.int (iZ w), .int (iZ h), .int (iZ mn), .ref hw, .ref hs, .ref hk])), (hw, .inl (cL, 16384, .inr (.inl (aL G))))]) (vx_runS (As := [.int (bI true)]) (rest := []) ⟨hx, hb, hml, hown, hts⟩ (c_DotSheet_demand l hnt dC dI sa true H.size ) (va_cwS 1 hts (gS t_154 t_155 t_1 t_156) rfl rfl rfl (by decide +kernel) ⟨Nat.le_of_ble_eq_true rfl, Nat.le_of_ble_eq_true rfl⟩) ⟨zPx_blind, zPx_pre hP hD hK hXK hS hA [] [] rfl rfl rfl rfl⟩ rfl rfl hl.1 rfl (lv_room (Nat.le_of_ble_eq_true rfl)) d_D_sheet_27 ⟨Nat.le_of_ble_eq_true rfl, Nat.le_of_ble_eq_true rfl⟩) hP hD hS hA [] [0, 1, 2] rfl rfl rfl (by decide) (fun E_ ce_ q9_ H locs x_27 hP hD hS hce hcv hcl => ?_) (fun u_27 H locs q_27 hP hD hS => ?_)
      · exact absurd x_27.2 (by decide)
      have hP : va_P (dC, dI) vwCl [(hx_, .inr (4, [.ref hp, .ref hst, .ref hd, .ref hfa])), (hp, .inr (2, [.int (iZ w), .int (iZ h), .int (iZ mn), .ref hw, .ref hs, .ref hk])), (hw, .inl (cL, 16384, .inr (.inl (aL G))))] H := hP
      have hD : va_D A [(hx_, .inr (4, [.ref hp, .ref hst, .ref hd, .ref hfa])), (hp, .inr (2, [.int (iZ w), .int (iZ h), .int (iZ mn), .ref hw, .ref hs, .ref hk])), (hw, .inl (cL, 16384, .inr (.inl (aL G))))] := hD
      refine lv_aload_n hx hb d_D_sheet_30 rfl (lv_at hl 0 rfl) ?_
      refine va_get (D := (dC, dI)) (ci := 4) (v := .ref hp) (C := R_D) (T := T_D) (N := 4) hx hb hts wi_D hown hK hP 0 rfl rfl 0 (by decide) (hts _ t_126) (fun _ h9 => h9) rfl d_D_sheet_31 ?_
      refine lv_iload_n hx hb d_D_sheet_34 rfl (lv_at hl 1 rfl) ?_
      refine lv_iload_n hx hb d_D_sheet_35 rfl (lv_at hl 2 rfl) ?_
      refine zc_v (w1 := fun (u_36 : Int → Int64) => [(hp, .inr (2, [.int (iZ nw), .int (iZ nh), .int (iZ mn), .ref hw, .ref hs, .ref hk])), (hw, .inl (cL, 16384, .inr (.inl (aL u_36))))]) (wr := [(hx_, .inr (4, [.ref hp, .ref hst, .ref hd, .ref hfa]))]) (va_runV (As := [.int (iZ nw), .int (iZ nh)]) (rest := []) ⟨hx, hb, hml, hown, hts⟩ (c_Paper_renew l dC dI hp hw hs hk cL w h mn G nw nh H.size ) (cwV 2 hts (gV t_224 t_225 t_226 t_2 t_227) rfl rfl rfl (by decide +kernel) ⟨Nat.le_of_ble_eq_true rfl, Nat.le_of_ble_eq_true rfl⟩) ⟨zPm_blind, va_recv hK hP (ci := 2) (q0 := 1) rfl rfl, zPm_pre hP hD hK [1, 2] [0] rfl rfl rfl rfl⟩ rfl rfl hl.1 rfl (lv_room (Nat.le_of_ble_eq_true rfl)) d_D_sheet_36 ⟨Nat.le_of_ble_eq_true rfl, Nat.le_of_ble_eq_true rfl⟩) hP hD hS hA [1, 2] [0] rfl rfl rfl (by decide) (fun u_36 H locs q_36 hP hD hS => ?_)
      have hP : va_P (dC, dI) vwCl [(hx_, .inr (4, [.ref hp, .ref hst, .ref hd, .ref hfa])), (hp, .inr (2, [.int (iZ nw), .int (iZ nh), .int (iZ mn), .ref hw, .ref hs, .ref hk])), (hw, .inl (cL, 16384, .inr (.inl (aL u_36))))] H := hP
      have hD : va_D A [(hx_, .inr (4, [.ref hp, .ref hst, .ref hd, .ref hfa])), (hp, .inr (2, [.int (iZ nw), .int (iZ nh), .int (iZ mn), .ref hw, .ref hs, .ref hk])), (hw, .inl (cL, 16384, .inr (.inl (aL u_36))))] := hD
      refine vx_ret ?_
      exact W.vret hx hb hr (fun t ht hW => ⟨⟨u_36, rfl, ⟨by omega, q_36⟩, by rw [ht]; exact hP, va_K.moved hW.alike hK, hD⟩, hS.F ht⟩) hS.2.2 d_D_sheet_39
theorem d_D_way_0 : decode c_yD_way 0 = .ok (.iload_n 1, 1) := by decide +kernel
theorem d_D_way_1 : decode c_yD_way 1 = .ok (.iconst 0, 1) := by decide +kernel
theorem d_D_way_2 : decode c_yD_way 2 = .ok (.iconst 2, 1) := by decide +kernel
theorem d_D_way_3 : decode c_yD_way 3 = .ok (.invokestatic 39, 3) := by decide +kernel
theorem d_D_way_6 : decode c_yD_way 6 = .ok (.invokestatic 43, 3) := by decide +kernel
theorem d_D_way_9 : decode c_yD_way 9 = .ok (.aload_n 0, 1) := by decide +kernel
theorem d_D_way_10 : decode c_yD_way 10 = .ok (.getfield 10, 3) := by decide +kernel
theorem d_D_way_13 : decode c_yD_way 13 = .ok (.getfield 51, 3) := by decide +kernel
theorem d_D_way_16 : decode c_yD_way 16 = .ok (.istore_n 2, 1) := by decide +kernel
theorem d_D_way_17 : decode c_yD_way 17 = .ok (.aload_n 0, 1) := by decide +kernel
theorem d_D_way_18 : decode c_yD_way 18 = .ok (.getfield 10, 3) := by decide +kernel
theorem d_D_way_21 : decode c_yD_way 21 = .ok (.iload_n 1, 1) := by decide +kernel
theorem d_D_way_22 : decode c_yD_way 22 = .ok (.putfield 51, 3) := by decide +kernel
theorem d_D_way_25 : decode c_yD_way 25 = .ok (.iload_n 2, 1) := by decide +kernel
theorem d_D_way_26 : decode c_yD_way 26 = .ok (.ireturn, 1) := by decide +kernel
set_option maxHeartbeats 4000000 in
set_option maxRecDepth 100000 in
theorem c_DotSheet_way (l : Launch) (hnt : l.stackTraces = false) (dC : Nat → ClassId) (dI : Nat → Nat → Nat) (sa : Nat → Nat) (hx_ hst hd hfa hp hw hs hk : Nat) (w h mn nm : Int) (sz : Nat) (nm1 : -2147483648 ≤ nm) (nm2 : nm ≤ 2147483647) : vx_Met l y_D_way w_D_way ({ frames := 7, cells := 1, slots := 6, locals := 120 }) (va_Pc [.ref hx_, .int (iZ nm)] (zPx (dC, dI) vwCl [(hx_, .inr (4, [.ref hp, .ref hst, .ref hd, .ref hfa])), (hp, .inr (2, [.int (iZ w), .int (iZ h), .int (iZ mn), .ref hw, .ref hs, .ref hk]))] [] sz sa)) (va_Qi (fun (r : Int32) (u : Unit) => r = iZ mn ∧ 0 ≤ nm ∧ nm ≤ 2) (fun u => zB (dC, dI) vwCl [] (va_A [(hx_, .inr (4, [.ref hp, .ref hst, .ref hd, .ref hfa])), (hp, .inr (2, [.int (iZ w), .int (iZ h), .int (iZ mn), .ref hw, .ref hs, .ref hk]))] sz) [(hx_, .inr (4, [.ref hp, .ref hst, .ref hd, .ref hfa])), (hp, .inr (2, [.int (iZ w), .int (iZ h), .int (iZ nm), .ref hw, .ref hs, .ref hk]))]) (va_A [(hx_, .inr (4, [.ref hp, .ref hst, .ref hd, .ref hfa])), (hp, .inr (2, [.int (iZ w), .int (iZ h), .int (iZ mn), .ref hw, .ref hs, .ref hk]))] sz)) (zX (fun E => E = "java/lang/IllegalArgumentException" ∧ ¬ (0 ≤ nm ∧ nm ≤ 2)) (dC, dI) vwCl [] (va_A [(hx_, .inr (4, [.ref hp, .ref hst, .ref hd, .ref hfa])), (hp, .inr (2, [.int (iZ w), .int (iZ h), .int (iZ mn), .ref hw, .ref hs, .ref hk]))] sz) [(hx_, .inr (4, [.ref hp, .ref hst, .ref hd, .ref hfa])), (hp, .inr (2, [.int (iZ w), .int (iZ h), .int (iZ mn), .ref hw, .ref hs, .ref hk]))]) 1 6 (va_A [(hx_, .inr (4, [.ref hp, .ref hst, .ref hd, .ref hfa])), (hp, .inr (2, [.int (iZ w), .int (iZ h), .int (iZ mn), .ref hw, .ref hs, .ref hk]))] sz) := by
  refine vx_ofW (cc := c_yD_way) (maxL := 3) (ret := (some .int)) (by decide) rfl ?_
  intro p e s m args below meth c s₁ B hml noEx hv
  obtain ⟨rfl, hsz, hP, hK, hD0, hXK⟩ := hv
  have hx := B.exec
  have hb := B.bytes
  have hr := B.returns
  have hts0 := atoms_spec (ws := w_D_way) B.pre
  have hts : ∀ w ∈ gT, w.before _ s = true := fun w h => hts0 w (List.mem_cons_of_mem _ h)
  have hown : s.vm.findClass R_D = some m.cls := findClass_of_methodNamed B.named
  have hlocks := B.notSynchronized
  subst hsz
  have hD := hD0.self (sz := s.heap.size)
  generalize hAe : va_A [(hx_, .inr (4, [.ref hp, .ref hst, .ref hd, .ref hfa])), (hp, .inr (2, [.int (iZ w), .int (iZ h), .int (iZ mn), .ref hw, .ref hs, .ref hk]))] s.heap.size = A at hD hXK ⊢
  have hA : ∀ q : Nat, s.heap.size ≤ q → A q := fun q h => by rw [← hAe]; exact Or.inr h
  obtain ⟨H, hH⟩ : ∃ H, s.heap = H := ⟨_, rfl⟩
  have hS : va_S A s.heap H [] := by rw [← hH]; exact va_S.rf
  rw [hH] at hP
  rw [hH]
  have hl := lv_entry ([.ref hx_, .int (iZ nm)]) (n := 3) (Nat.le_of_ble_eq_true rfl)
  rw [lg_entry_eq]
  generalize (lg_sl ([.ref hx_, .int (iZ nm)]) ++ List.replicate (3 - (lg_sl ([.ref hx_, .int (iZ nm)])).length) Slot.unset).toArray = ls at hl ⊢
  have hl : lv_has ls 3 [(0, .ref hx_), (1, .int (iZ nm))] := hl
  refine lv_iload_n hx hb d_D_way_0 rfl (lv_at hl 1 rfl) ?_
  refine lv_iconst (v := iZ (0)) hx hb d_D_way_1 rfl ?_
  refine lv_iconst (v := iZ (2)) hx hb d_D_way_2 rfl ?_
  refine vp_callSi (va_runS (As := [.int (iZ nm), .int (iZ 0), .int (iZ 2)]) (rest := []) ⟨hx, hb, hml, hown, hts⟩ (c_DotSheet_isWithin l dC dI nm 0 2 (by first | omega | assumption) (by first | omega | assumption) (by first | omega | assumption) (by first | omega | assumption) (by first | omega | assumption) (by first | omega | assumption)) (va_cwS 3 hts (gS t_151 t_152 t_1 t_153) rfl rfl rfl (by decide +kernel) ⟨Nat.le_of_ble_eq_true rfl, Nat.le_of_ble_eq_true rfl⟩) ⟨zPr_blind, zPr_pre hP hK [] [] rfl rfl⟩ rfl rfl hl.1 rfl (lv_room (Nat.le_of_ble_eq_true rfl)) d_D_way_3 ⟨Nat.le_of_ble_eq_true rfl, Nat.le_of_ble_eq_true rfl⟩).run (fun r_3 q_3 => ?_)
  obtain rfl := q_3
  refine zx_v (w1 := fun (u_6 : Unit) => []) (wr := [(hx_, .inr (4, [.ref hp, .ref hst, .ref hd, .ref hfa])), (hp, .inr (2, [.int (iZ w), .int (iZ h), .int (iZ mn), .ref hw, .ref hs, .ref hk]))]) (vx_runS (As := [.int (bI (decide (0 ≤ nm ∧ nm ≤ 2)))]) (rest := []) ⟨hx, hb, hml, hown, hts⟩ (c_DotSheet_demand l hnt dC dI sa (decide (0 ≤ nm ∧ nm ≤ 2)) H.size ) (va_cwS 1 hts (gS t_154 t_155 t_1 t_156) rfl rfl rfl (by decide +kernel) ⟨Nat.le_of_ble_eq_true rfl, Nat.le_of_ble_eq_true rfl⟩) ⟨zPx_blind, zPx_pre hP hD hK hXK hS hA [] [] rfl rfl rfl rfl⟩ rfl rfl hl.1 rfl (lv_room (Nat.le_of_ble_eq_true rfl)) d_D_way_6 ⟨Nat.le_of_ble_eq_true rfl, Nat.le_of_ble_eq_true rfl⟩) hP hD hS hA [] [0, 1] rfl rfl rfl (by decide) (fun E_ ce_ q9_ H locs x_6 hP hD hS hce hcv hcl => ?_) (fun u_6 H locs q_6 hP hD hS => ?_)
  · have hP : va_P (dC, dI) vwCl [(hx_, .inr (4, [.ref hp, .ref hst, .ref hd, .ref hfa])), (hp, .inr (2, [.int (iZ w), .int (iZ h), .int (iZ mn), .ref hw, .ref hs, .ref hk]))] H := hP
    have hD : va_D A [(hx_, .inr (4, [.ref hp, .ref hst, .ref hd, .ref hfa])), (hp, .inr (2, [.int (iZ w), .int (iZ h), .int (iZ mn), .ref hw, .ref hs, .ref hk]))] := hD
    exact vx_out (fun x9 h9 => (noEx x9 h9).elim) hlocks hce hcv hcl (fun t ht ha => ⟨(), trivial, ⟨⟨x_6.1, by have z9 := of_decide_eq_false x_6.2; omega⟩, by rw [ht]; exact hP, va_K.moved ha hK, hD⟩, hS.F ht⟩) hS.2.2 (Nat.le_of_ble_eq_true rfl) (Nat.le_of_ble_eq_true rfl)
  have hP : va_P (dC, dI) vwCl [(hx_, .inr (4, [.ref hp, .ref hst, .ref hd, .ref hfa])), (hp, .inr (2, [.int (iZ w), .int (iZ h), .int (iZ mn), .ref hw, .ref hs, .ref hk]))] H := hP
  have hD : va_D A [(hx_, .inr (4, [.ref hp, .ref hst, .ref hd, .ref hfa])), (hp, .inr (2, [.int (iZ w), .int (iZ h), .int (iZ mn), .ref hw, .ref hs, .ref hk]))] := hD
  have q_6 := of_decide_eq_true q_6
  refine lv_aload_n hx hb d_D_way_9 rfl (lv_at hl 0 rfl) ?_
  refine va_get (D := (dC, dI)) (ci := 4) (v := .ref hp) (C := R_D) (T := T_D) (N := 4) hx hb hts wi_D hown hK hP 0 rfl rfl 0 (by decide) (hts _ t_126) (fun _ h9 => h9) rfl d_D_way_10 ?_
  refine va_get (D := (dC, dI)) (ci := 2) (v := .int (iZ mn)) (C := R_Pa) (T := T_Pa) (N := 6) hx hb hts wi_Pa hown hK hP 1 rfl rfl 2 (by decide) (hts _ t_38) (fun _ h9 => h9) rfl d_D_way_13 ?_
  refine lv_istore_n (lv' := [(2, .int (iZ mn)), (0, .ref hx_), (1, .int (iZ nm))]) hx hb d_D_way_16 rfl hl (by decide) rfl (fun ls hl => ?_)
  refine lv_aload_n hx hb d_D_way_17 rfl (lv_at hl 1 rfl) ?_
  refine va_get (D := (dC, dI)) (ci := 4) (v := .ref hp) (C := R_D) (T := T_D) (N := 4) hx hb hts wi_D hown hK hP 0 rfl rfl 0 (by decide) (hts _ t_126) (fun _ h9 => h9) rfl d_D_way_18 ?_
  refine lv_iload_n hx hb d_D_way_21 rfl (lv_at hl 2 rfl) ?_
  refine va_put (D := (dC, dI)) (ci := 2) (v := .int (iZ nm)) (ty := .int) (C := R_Pa) (T := T_Pa) (N := 6) hx hb hts wi_Pa ty_Pa ty_Pa_ok nd_Pa hown hK hP hD hS 1 rfl rfl 2 (by decide) (hts _ t_38) (fun _ h9 => h9) rfl (by decide +kernel) rfl rfl (Nat.le_of_ble_eq_true rfl) d_D_way_22 (fun H locs hP hD hS => ?_)
  have hP : va_P (dC, dI) vwCl [(hx_, .inr (4, [.ref hp, .ref hst, .ref hd, .ref hfa])), (hp, .inr (2, [.int (iZ w), .int (iZ h), .int (iZ nm), .ref hw, .ref hs, .ref hk]))] H := hP
  have hD : va_D A [(hx_, .inr (4, [.ref hp, .ref hst, .ref hd, .ref hfa])), (hp, .inr (2, [.int (iZ w), .int (iZ h), .int (iZ nm), .ref hw, .ref hs, .ref hk]))] := hD
  refine lv_iload_n hx hb d_D_way_25 rfl (lv_at hl 0 rfl) ?_
  refine vx_ret ?_
  exact W.iret hx hb hr (fun t ht hW => ⟨⟨_, (()), rfl, ⟨rfl, q_6⟩, by rw [ht]; exact hP, va_K.moved hW.alike hK, hD⟩, hS.F ht⟩) hS.2.2 d_D_way_26
theorem d_D_wipe_0 : decode c_yD_wipe 0 = .ok (.aload_n 0, 1) := by decide +kernel
theorem d_D_wipe_1 : decode c_yD_wipe 1 = .ok (.getfield 28, 3) := by decide +kernel
theorem d_D_wipe_4 : decode c_yD_wipe 4 = .ok (.getfield 59, 3) := by decide +kernel
theorem d_D_wipe_7 : decode c_yD_wipe 7 = .ok (.istore_n 1, 1) := by decide +kernel
theorem d_D_wipe_8 : decode c_yD_wipe 8 = .ok (.aload_n 0, 1) := by decide +kernel
theorem d_D_wipe_9 : decode c_yD_wipe 9 = .ok (.getfield 28, 3) := by decide +kernel
theorem d_D_wipe_12 : decode c_yD_wipe 12 = .ok (.iconst 0, 1) := by decide +kernel
theorem d_D_wipe_13 : decode c_yD_wipe 13 = .ok (.putfield 59, 3) := by decide +kernel
theorem d_D_wipe_16 : decode c_yD_wipe 16 = .ok (.iload_n 1, 1) := by decide +kernel
theorem d_D_wipe_17 : decode c_yD_wipe 17 = .ok (.ireturn, 1) := by decide +kernel
set_option maxHeartbeats 4000000 in
set_option maxRecDepth 100000 in
theorem c_DotSheet_wipe (l : Launch) (dC : Nat → ClassId) (dI : Nat → Nat → Nat) (hx_ hst hd hfa hp hy : Nat) (n : Int) (sz : Nat)  : Met l y_D_wipe w_D_wipe ({ frames := 0, cells := 0, slots := 0, locals := 0 }) (va_Pc [.ref hx_] (zPm (dC, dI) vwCl [(hx_, .inr (4, [.ref hp, .ref hst, .ref hd, .ref hfa])), (hd, .inr (0, [.int (iZ n), .ref hy]))] [] sz)) (va_Qi (fun (r : Int32) (u : Unit) => r = iZ n) (fun u => zB (dC, dI) vwCl [] (va_A [(hx_, .inr (4, [.ref hp, .ref hst, .ref hd, .ref hfa])), (hd, .inr (0, [.int (iZ n), .ref hy]))] sz) [(hx_, .inr (4, [.ref hp, .ref hst, .ref hd, .ref hfa])), (hd, .inr (0, [.int (iZ 0), .ref hy]))]) (va_A [(hx_, .inr (4, [.ref hp, .ref hst, .ref hd, .ref hfa])), (hd, .inr (0, [.int (iZ n), .ref hy]))] sz)) 0 0 (va_A [(hx_, .inr (4, [.ref hp, .ref hst, .ref hd, .ref hfa])), (hd, .inr (0, [.int (iZ n), .ref hy]))] sz) := by
  refine Met.ofW (cc := c_yD_wipe) (maxL := 2) (ret := (some .int)) (by decide) rfl ?_
  intro p e s m args below meth c s₁ B hml hv
  obtain ⟨rfl, hsz, hP, hK, hD0⟩ := hv
  have hx := B.exec
  have hb := B.bytes
  have hr := B.returns
  have hts0 := atoms_spec (ws := w_D_wipe) B.pre
  have hts : ∀ w ∈ gT, w.before _ s = true := fun w h => hts0 w (List.mem_cons_of_mem _ h)
  have hown : s.vm.findClass R_D = some m.cls := findClass_of_methodNamed B.named
  have hlocks := B.notSynchronized
  subst hsz
  have hD := hD0.self (sz := s.heap.size)
  generalize hAe : va_A [(hx_, .inr (4, [.ref hp, .ref hst, .ref hd, .ref hfa])), (hd, .inr (0, [.int (iZ n), .ref hy]))] s.heap.size = A at hD ⊢
  have hA : ∀ q : Nat, s.heap.size ≤ q → A q := fun q h => by rw [← hAe]; exact Or.inr h
  obtain ⟨H, hH⟩ : ∃ H, s.heap = H := ⟨_, rfl⟩
  have hS : va_S A s.heap H [] := by rw [← hH]; exact va_S.rf
  rw [hH] at hP
  rw [hH]
  have hl := lv_entry ([.ref hx_]) (n := 2) (Nat.le_of_ble_eq_true rfl)
  rw [lg_entry_eq]
  generalize (lg_sl ([.ref hx_]) ++ List.replicate (2 - (lg_sl ([.ref hx_])).length) Slot.unset).toArray = ls at hl ⊢
  have hl : lv_has ls 2 [(0, .ref hx_)] := hl
  refine lv_aload_n hx hb d_D_wipe_0 rfl (lv_at hl 0 rfl) ?_
  refine va_get (D := (dC, dI)) (ci := 4) (v := .ref hd) (C := R_D) (T := T_D) (N := 4) hx hb hts wi_D hown hK hP 0 rfl rfl 2 (by decide) (hts _ t_128) (fun _ h9 => h9) rfl d_D_wipe_1 ?_
  refine va_get (D := (dC, dI)) (ci := 0) (v := .int (iZ n)) (C := R_Dr) (T := T_Dr) (N := 2) hx hb hts wi_Dr hown hK hP 1 rfl rfl 0 (by decide) (hts _ t_94) (fun _ h9 => h9) rfl d_D_wipe_4 ?_
  refine lv_istore_n (lv' := [(1, .int (iZ n)), (0, .ref hx_)]) hx hb d_D_wipe_7 rfl hl (by decide) rfl (fun ls hl => ?_)
  refine lv_aload_n hx hb d_D_wipe_8 rfl (lv_at hl 1 rfl) ?_
  refine va_get (D := (dC, dI)) (ci := 4) (v := .ref hd) (C := R_D) (T := T_D) (N := 4) hx hb hts wi_D hown hK hP 0 rfl rfl 2 (by decide) (hts _ t_128) (fun _ h9 => h9) rfl d_D_wipe_9 ?_
  refine lv_iconst (v := iZ (0)) hx hb d_D_wipe_12 rfl ?_
  refine va_put (D := (dC, dI)) (ci := 0) (v := .int (iZ 0)) (ty := .int) (C := R_Dr) (T := T_Dr) (N := 2) hx hb hts wi_Dr ty_Dr ty_Dr_ok nd_Dr hown hK hP hD hS 1 rfl rfl 0 (by decide) (hts _ t_94) (fun _ h9 => h9) rfl (by decide +kernel) rfl rfl (Nat.le_of_ble_eq_true rfl) d_D_wipe_13 (fun H locs hP hD hS => ?_)
  have hP : va_P (dC, dI) vwCl [(hx_, .inr (4, [.ref hp, .ref hst, .ref hd, .ref hfa])), (hd, .inr (0, [.int (iZ 0), .ref hy]))] H := hP
  have hD : va_D A [(hx_, .inr (4, [.ref hp, .ref hst, .ref hd, .ref hfa])), (hd, .inr (0, [.int (iZ 0), .ref hy]))] := hD
  refine lv_iload_n hx hb d_D_wipe_16 rfl (lv_at hl 0 rfl) ?_
  exact W.iret hx hb hr (fun t ht hW => ⟨⟨_, (()), rfl, rfl, by rw [ht]; exact hP, va_K.moved hW.alike hK, hD⟩, hS.F ht⟩) hS.2.2 d_D_wipe_17
theorem d_D_write_0 : decode c_yD_write 0 = .ok (.iload_n 1, 1) := by decide +kernel
theorem d_D_write_1 : decode c_yD_write 1 = .ok (.iconst 1, 1) := by decide +kernel
theorem d_D_write_2 : decode c_yD_write 2 = .ok (.bipush 8, 2) := by decide +kernel
theorem d_D_write_4 : decode c_yD_write 4 = .ok (.invokestatic 39, 3) := by decide +kernel
theorem d_D_write_7 : decode c_yD_write 7 = .ok (.invokestatic 43, 3) := by decide +kernel
theorem d_D_write_10 : decode c_yD_write 10 = .ok (.aload_n 0, 1) := by decide +kernel
theorem d_D_write_11 : decode c_yD_write 11 = .ok (.getfield 28, 3) := by decide +kernel
theorem d_D_write_14 : decode c_yD_write 14 = .ok (.iload_n 1, 1) := by decide +kernel
theorem d_D_write_15 : decode c_yD_write 15 = .ok (.lload_n 2, 1) := by decide +kernel
theorem d_D_write_16 : decode c_yD_write 16 = .ok (.invokevirtual 55, 3) := by decide +kernel
theorem d_D_write_19 : decode c_yD_write 19 = .ok (.ifCond .eq 13, 3) := by decide +kernel
theorem d_D_write_22 : decode c_yD_write 22 = .ok (.aload_n 0, 1) := by decide +kernel
theorem d_D_write_23 : decode c_yD_write 23 = .ok (.getfield 28, 3) := by decide +kernel
theorem d_D_write_26 : decode c_yD_write 26 = .ok (.getfield 59, 3) := by decide +kernel
theorem d_D_write_29 : decode c_yD_write 29 = .ok (.goto 4, 3) := by decide +kernel
theorem d_D_write_32 : decode c_yD_write 32 = .ok (.iconst (-1), 1) := by decide +kernel
theorem d_D_write_33 : decode c_yD_write 33 = .ok (.ireturn, 1) := by decide +kernel
set_option maxHeartbeats 4000000 in
set_option maxRecDepth 100000 in
theorem c_DotSheet_write (l : Launch) (hnt : l.stackTraces = false) (dC : Nat → ClassId) (dI : Nat → Nat → Nat) (sa : Nat → Nat) (hx_ hst hd hfa hp hy : Nat) (cB : ClassId) (n : Int) (Y : Int → Int32) (dr : Int → Int) (a : Int) (v : Int64) (sz : Nat) (n1 : 0 ≤ n) (n2 : n ≤ 4096) (hY : RepD Y n dr) (a1 : -2147483648 ≤ a) (a2 : a ≤ 2147483647) : vx_Met l y_D_write w_D_write ({ frames := 7, cells := 1, slots := 6, locals := 120 }) (va_Pc [.ref hx_, .int (iZ a), .long v] (zPx (dC, dI) vwCl [(hx_, .inr (4, [.ref hp, .ref hst, .ref hd, .ref hfa])), (hd, .inr (0, [.int (iZ n), .ref hy])), (hy, .inl (cB, 4096, .inl (aI Y)))] [(cB, .byte)] sz sa)) (va_Qi (fun (r : Int32) (u : (Int → Int32) × Int) => r = iZ (if n + a ≤ 4096 then n + a else -1) ∧ (1 ≤ a ∧ a ≤ 8) ∧ (n + a ≤ 4096 → u.2 = n + a ∧ RepD u.1 (n + a) (fun j => if j < n then dr j else bOf v (j - n))) ∧ (¬ n + a ≤ 4096 → u.1 = Y ∧ u.2 = n)) (fun u => zB (dC, dI) vwCl [(cB, .byte)] (va_A [(hx_, .inr (4, [.ref hp, .ref hst, .ref hd, .ref hfa])), (hd, .inr (0, [.int (iZ n), .ref hy])), (hy, .inl (cB, 4096, .inl (aI Y)))] sz) [(hx_, .inr (4, [.ref hp, .ref hst, .ref hd, .ref hfa])), (hd, .inr (0, [.int (iZ u.2), .ref hy])), (hy, .inl (cB, 4096, .inl (aI u.1)))]) (va_A [(hx_, .inr (4, [.ref hp, .ref hst, .ref hd, .ref hfa])), (hd, .inr (0, [.int (iZ n), .ref hy])), (hy, .inl (cB, 4096, .inl (aI Y)))] sz)) (zX (fun E => E = "java/lang/IllegalArgumentException" ∧ ¬ (1 ≤ a ∧ a ≤ 8)) (dC, dI) vwCl [(cB, .byte)] (va_A [(hx_, .inr (4, [.ref hp, .ref hst, .ref hd, .ref hfa])), (hd, .inr (0, [.int (iZ n), .ref hy])), (hy, .inl (cB, 4096, .inl (aI Y)))] sz) [(hx_, .inr (4, [.ref hp, .ref hst, .ref hd, .ref hfa])), (hd, .inr (0, [.int (iZ n), .ref hy])), (hy, .inl (cB, 4096, .inl (aI Y)))]) 1 6 (va_A [(hx_, .inr (4, [.ref hp, .ref hst, .ref hd, .ref hfa])), (hd, .inr (0, [.int (iZ n), .ref hy])), (hy, .inl (cB, 4096, .inl (aI Y)))] sz) := by
  refine vx_ofW (cc := c_yD_write) (maxL := 4) (ret := (some .int)) (by decide) rfl ?_
  intro p e s m args below meth c s₁ B hml noEx hv
  obtain ⟨rfl, hsz, hP, hK, hD0, hXK⟩ := hv
  have hx := B.exec
  have hb := B.bytes
  have hr := B.returns
  have hts0 := atoms_spec (ws := w_D_write) B.pre
  have hts : ∀ w ∈ gT, w.before _ s = true := fun w h => hts0 w (List.mem_cons_of_mem _ h)
  have hown : s.vm.findClass R_D = some m.cls := findClass_of_methodNamed B.named
  have hlocks := B.notSynchronized
  subst hsz
  have hD := hD0.self (sz := s.heap.size)
  generalize hAe : va_A [(hx_, .inr (4, [.ref hp, .ref hst, .ref hd, .ref hfa])), (hd, .inr (0, [.int (iZ n), .ref hy])), (hy, .inl (cB, 4096, .inl (aI Y)))] s.heap.size = A at hD hXK ⊢
  have hA : ∀ q : Nat, s.heap.size ≤ q → A q := fun q h => by rw [← hAe]; exact Or.inr h
  obtain ⟨H, hH⟩ : ∃ H, s.heap = H := ⟨_, rfl⟩
  have hS : va_S A s.heap H [] := by rw [← hH]; exact va_S.rf
  rw [hH] at hP
  rw [hH]
  have hl := lv_entry ([.ref hx_, .int (iZ a), .long v]) (n := 4) (Nat.le_of_ble_eq_true rfl)
  rw [lg_entry_eq]
  generalize (lg_sl ([.ref hx_, .int (iZ a), .long v]) ++ List.replicate (4 - (lg_sl ([.ref hx_, .int (iZ a), .long v])).length) Slot.unset).toArray = ls at hl ⊢
  have hl : lv_has ls 4 [(0, .ref hx_), (1, .int (iZ a)), (2, .long v)] := hl
  refine lv_iload_n hx hb d_D_write_0 rfl (lv_at hl 1 rfl) ?_
  refine lv_iconst (v := iZ (1)) hx hb d_D_write_1 rfl ?_
  refine lv_bipush (v := iZ (8)) hx hb d_D_write_2 (by decide) ?_
  refine vp_callSi (va_runS (As := [.int (iZ a), .int (iZ 1), .int (iZ 8)]) (rest := []) ⟨hx, hb, hml, hown, hts⟩ (c_DotSheet_isWithin l dC dI a 1 8 (by first | omega | assumption) (by first | omega | assumption) (by first | omega | assumption) (by first | omega | assumption) (by first | omega | assumption) (by first | omega | assumption)) (va_cwS 3 hts (gS t_151 t_152 t_1 t_153) rfl rfl rfl (by decide +kernel) ⟨Nat.le_of_ble_eq_true rfl, Nat.le_of_ble_eq_true rfl⟩) ⟨zPr_blind, zPr_pre hP hK [] [] rfl rfl⟩ rfl rfl hl.1 rfl (lv_room (Nat.le_of_ble_eq_true rfl)) d_D_write_4 ⟨Nat.le_of_ble_eq_true rfl, Nat.le_of_ble_eq_true rfl⟩).run (fun r_4 q_4 => ?_)
  obtain rfl := q_4
  refine zx_v (w1 := fun (u_7 : Unit) => []) (wr := [(hx_, .inr (4, [.ref hp, .ref hst, .ref hd, .ref hfa])), (hd, .inr (0, [.int (iZ n), .ref hy])), (hy, .inl (cB, 4096, .inl (aI Y)))]) (vx_runS (As := [.int (bI (decide (1 ≤ a ∧ a ≤ 8)))]) (rest := []) ⟨hx, hb, hml, hown, hts⟩ (c_DotSheet_demand l hnt dC dI sa (decide (1 ≤ a ∧ a ≤ 8)) H.size ) (va_cwS 1 hts (gS t_154 t_155 t_1 t_156) rfl rfl rfl (by decide +kernel) ⟨Nat.le_of_ble_eq_true rfl, Nat.le_of_ble_eq_true rfl⟩) ⟨zPx_blind, zPx_pre hP hD hK hXK hS hA [] [] rfl rfl rfl rfl⟩ rfl rfl hl.1 rfl (lv_room (Nat.le_of_ble_eq_true rfl)) d_D_write_7 ⟨Nat.le_of_ble_eq_true rfl, Nat.le_of_ble_eq_true rfl⟩) hP hD hS hA [] [0, 1, 2] rfl rfl rfl (by decide) (fun E_ ce_ q9_ H locs x_7 hP hD hS hce hcv hcl => ?_) (fun u_7 H locs q_7 hP hD hS => ?_)
  · have hP : va_P (dC, dI) vwCl [(hx_, .inr (4, [.ref hp, .ref hst, .ref hd, .ref hfa])), (hd, .inr (0, [.int (iZ n), .ref hy])), (hy, .inl (cB, 4096, .inl (aI Y)))] H := hP
    have hD : va_D A [(hx_, .inr (4, [.ref hp, .ref hst, .ref hd, .ref hfa])), (hd, .inr (0, [.int (iZ n), .ref hy])), (hy, .inl (cB, 4096, .inl (aI Y)))] := hD
    exact vx_out (fun x9 h9 => (noEx x9 h9).elim) hlocks hce hcv hcl (fun t ht ha => ⟨(), trivial, ⟨⟨x_7.1, by have z9 := of_decide_eq_false x_7.2; omega⟩, by rw [ht]; exact hP, va_K.moved ha hK, hD⟩, hS.F ht⟩) hS.2.2 (Nat.le_of_ble_eq_true rfl) (Nat.le_of_ble_eq_true rfl)
  have hP : va_P (dC, dI) vwCl [(hx_, .inr (4, [.ref hp, .ref hst, .ref hd, .ref hfa])), (hd, .inr (0, [.int (iZ n), .ref hy])), (hy, .inl (cB, 4096, .inl (aI Y)))] H := hP
  have hD : va_D A [(hx_, .inr (4, [.ref hp, .ref hst, .ref hd, .ref hfa])), (hd, .inr (0, [.int (iZ n), .ref hy])), (hy, .inl (cB, 4096, .inl (aI Y)))] := hD
  have q_7 := of_decide_eq_true q_7
  refine lv_aload_n hx hb d_D_write_10 rfl (lv_at hl 0 rfl) ?_
  refine va_get (D := (dC, dI)) (ci := 4) (v := .ref hd) (C := R_D) (T := T_D) (N := 4) hx hb hts wi_D hown hK hP 0 rfl rfl 2 (by decide) (hts _ t_128) (fun _ h9 => h9) rfl d_D_write_11 ?_
  refine lv_iload_n hx hb d_D_write_14 rfl (lv_at hl 1 rfl) ?_
  refine lv_lload_n hx hb d_D_write_15 rfl (lv_at hl 2 rfl) ?_
  refine zc_i (w1 := fun (u_16 : (Int → Int32) × Int) => [(hd, .inr (0, [.int (iZ u_16.2), .ref hy])), (hy, .inl (cB, 4096, .inl (aI u_16.1)))]) (wr := [(hx_, .inr (4, [.ref hp, .ref hst, .ref hd, .ref hfa]))]) (va_runV (As := [.int (iZ a), .long v]) (rest := []) ⟨hx, hb, hml, hown, hts⟩ (c_Draft_append l dC dI hd hy cB n Y dr a v H.size (by first | omega | assumption) (by first | omega | assumption) (by first | omega | assumption) (by first | omega | assumption) (by first | omega | assumption)) (cwV 2 hts (gV t_245 t_246 t_247 t_4 t_248) rfl rfl rfl (by decide +kernel) ⟨Nat.le_of_ble_eq_true rfl, Nat.le_of_ble_eq_true rfl⟩) ⟨zPm_blind, va_recv hK hP (ci := 0) (q0 := 1) rfl rfl, zPm_pre hP hD hK [1, 2] [0] rfl rfl rfl rfl⟩ rfl rfl hl.1 rfl (lv_room (Nat.le_of_ble_eq_true rfl)) d_D_write_16 ⟨Nat.le_of_ble_eq_true rfl, Nat.le_of_ble_eq_true rfl⟩) hP hD hS hA [1, 2] [0] rfl rfl rfl (by decide) (fun r_16 u_16 H locs q_16 hP hD hS => ?_)
  have hP : va_P (dC, dI) vwCl [(hx_, .inr (4, [.ref hp, .ref hst, .ref hd, .ref hfa])), (hd, .inr (0, [.int (iZ u_16.2), .ref hy])), (hy, .inl (cB, 4096, .inl (aI u_16.1)))] H := hP
  have hD : va_D A [(hx_, .inr (4, [.ref hp, .ref hst, .ref hd, .ref hfa])), (hd, .inr (0, [.int (iZ u_16.2), .ref hy])), (hy, .inl (cB, 4096, .inl (aI u_16.1)))] := hD
  obtain ⟨rfl, q_16⟩ := q_16
  refine zb_if_eq (tgt := 32) hx hb d_D_write_19 (by decide) (fun c_19 => ?_) (fun c_19 => ?_)
  · have c_19 := of_decide_eq_false c_19
    refine lv_iconst (v := iZ (-1)) hx hb d_D_write_32 rfl ?_
    refine vx_ret ?_
    exact W.iret hx hb hr (fun t ht hW => ⟨⟨_, u_16, rfl, ⟨congrArg iZ (by rw [if_neg (by omega)]), q_7, q_16⟩, by rw [ht]; exact hP, va_K.moved hW.alike hK, hD⟩, hS.F ht⟩) hS.2.2 d_D_write_33
  · have c_19 := of_decide_eq_true c_19
    refine lv_aload_n hx hb d_D_write_22 rfl (lv_at hl 0 rfl) ?_
    refine va_get (D := (dC, dI)) (ci := 4) (v := .ref hd) (C := R_D) (T := T_D) (N := 4) hx hb hts wi_D hown hK hP 0 rfl rfl 2 (by decide) (hts _ t_128) (fun _ h9 => h9) rfl d_D_write_23 ?_
    refine va_get (D := (dC, dI)) (ci := 0) (v := .int (iZ u_16.2)) (C := R_Dr) (T := T_Dr) (N := 2) hx hb hts wi_Dr hown hK hP 1 rfl rfl 0 (by decide) (hts _ t_94) (fun _ h9 => h9) rfl d_D_write_26 ?_
    refine lv_goto (tgt := 33) hx hb d_D_write_29 (by decide) ?_
    refine vx_ret ?_
    exact W.iret hx hb hr (fun t ht hW => ⟨⟨_, u_16, rfl, ⟨congrArg iZ (by rw [if_pos (by omega), (q_16.1 (by omega)).1]), q_7, q_16⟩, by rw [ht]; exact hP, va_K.moved hW.alike hK, hD⟩, hS.F ht⟩) hS.2.2 d_D_write_33
theorem d_D_frame_0 : decode c_yD_frame 0 = .ok (.iload_n 1, 1) := by decide +kernel
theorem d_D_frame_1 : decode c_yD_frame 1 = .ok (.iload_n 2, 1) := by decide +kernel
theorem d_D_frame_2 : decode c_yD_frame 2 = .ok (.iload_n 3, 1) := by decide +kernel
theorem d_D_frame_3 : decode c_yD_frame 3 = .ok (.iload 4, 2) := by decide +kernel
theorem d_D_frame_5 : decode c_yD_frame 5 = .ok (.invokestatic 62, 3) := by decide +kernel
theorem d_D_frame_8 : decode c_yD_frame 8 = .ok (.iload 5, 2) := by decide +kernel
theorem d_D_frame_10 : decode c_yD_frame 10 = .ok (.invokestatic 66, 3) := by decide +kernel
theorem d_D_frame_13 : decode c_yD_frame 13 = .ok (.invokestatic 43, 3) := by decide +kernel
theorem d_D_frame_16 : decode c_yD_frame 16 = .ok (.iload_n 1, 1) := by decide +kernel
theorem d_D_frame_17 : decode c_yD_frame 17 = .ok (.iload_n 3, 1) := by decide +kernel
theorem d_D_frame_18 : decode c_yD_frame 18 = .ok (.iadd, 1) := by decide +kernel
theorem d_D_frame_19 : decode c_yD_frame 19 = .ok (.iconst 1, 1) := by decide +kernel
theorem d_D_frame_20 : decode c_yD_frame 20 = .ok (.isub, 1) := by decide +kernel
theorem d_D_frame_21 : decode c_yD_frame 21 = .ok (.istore 6, 2) := by decide +kernel
theorem d_D_frame_23 : decode c_yD_frame 23 = .ok (.iload_n 2, 1) := by decide +kernel
theorem d_D_frame_24 : decode c_yD_frame 24 = .ok (.iload 4, 2) := by decide +kernel
theorem d_D_frame_26 : decode c_yD_frame 26 = .ok (.iadd, 1) := by decide +kernel
theorem d_D_frame_27 : decode c_yD_frame 27 = .ok (.iconst 1, 1) := by decide +kernel
theorem d_D_frame_28 : decode c_yD_frame 28 = .ok (.isub, 1) := by decide +kernel
theorem d_D_frame_29 : decode c_yD_frame 29 = .ok (.istore 7, 2) := by decide +kernel
theorem d_D_frame_31 : decode c_yD_frame 31 = .ok (.iconst 0, 1) := by decide +kernel
theorem d_D_frame_32 : decode c_yD_frame 32 = .ok (.istore 8, 2) := by decide +kernel
theorem d_D_frame_34 : decode c_yD_frame 34 = .ok (.iload_n 2, 1) := by decide +kernel
theorem d_D_frame_35 : decode c_yD_frame 35 = .ok (.iconst 0, 1) := by decide +kernel
theorem d_D_frame_36 : decode c_yD_frame 36 = .ok (.invokestatic 70, 3) := by decide +kernel
theorem d_D_frame_39 : decode c_yD_frame 39 = .ok (.istore 9, 2) := by decide +kernel
theorem d_D_frame_41 : decode c_yD_frame 41 = .ok (.iload 9, 2) := by decide +kernel
theorem d_D_frame_43 : decode c_yD_frame 43 = .ok (.iload 7, 2) := by decide +kernel
theorem d_D_frame_45 : decode c_yD_frame 45 = .ok (.aload_n 0, 1) := by decide +kernel
theorem d_D_frame_46 : decode c_yD_frame 46 = .ok (.getfield 10, 3) := by decide +kernel
theorem d_D_frame_49 : decode c_yD_frame 49 = .ok (.getfield 76, 3) := by decide +kernel
theorem d_D_frame_52 : decode c_yD_frame 52 = .ok (.iconst 1, 1) := by decide +kernel
theorem d_D_frame_53 : decode c_yD_frame 53 = .ok (.isub, 1) := by decide +kernel
theorem d_D_frame_54 : decode c_yD_frame 54 = .ok (.invokestatic 79, 3) := by decide +kernel
theorem d_D_frame_57 : decode c_yD_frame 57 = .ok (.if_icmp .gt 74, 3) := by decide +kernel
theorem d_D_frame_60 : decode c_yD_frame 60 = .ok (.iload 9, 2) := by decide +kernel
theorem d_D_frame_62 : decode c_yD_frame 62 = .ok (.iload_n 2, 1) := by decide +kernel
theorem d_D_frame_63 : decode c_yD_frame 63 = .ok (.iload 5, 2) := by decide +kernel
theorem d_D_frame_65 : decode c_yD_frame 65 = .ok (.iadd, 1) := by decide +kernel
theorem d_D_frame_66 : decode c_yD_frame 66 = .ok (.iload 7, 2) := by decide +kernel
theorem d_D_frame_68 : decode c_yD_frame 68 = .ok (.iload 5, 2) := by decide +kernel
theorem d_D_frame_70 : decode c_yD_frame 70 = .ok (.isub, 1) := by decide +kernel
theorem d_D_frame_71 : decode c_yD_frame 71 = .ok (.invokestatic 39, 3) := by decide +kernel
theorem d_D_frame_74 : decode c_yD_frame 74 = .ok (.ifCond .eq 32, 3) := by decide +kernel
theorem d_D_frame_77 : decode c_yD_frame 77 = .ok (.iload 8, 2) := by decide +kernel
theorem d_D_frame_79 : decode c_yD_frame 79 = .ok (.aload_n 0, 1) := by decide +kernel
theorem d_D_frame_80 : decode c_yD_frame 80 = .ok (.getfield 10, 3) := by decide +kernel
theorem d_D_frame_83 : decode c_yD_frame 83 = .ok (.iload 9, 2) := by decide +kernel
theorem d_D_frame_85 : decode c_yD_frame 85 = .ok (.iload_n 1, 1) := by decide +kernel
theorem d_D_frame_86 : decode c_yD_frame 86 = .ok (.iload 6, 2) := by decide +kernel
theorem d_D_frame_88 : decode c_yD_frame 88 = .ok (.iload_n 1, 1) := by decide +kernel
theorem d_D_frame_89 : decode c_yD_frame 89 = .ok (.iload 5, 2) := by decide +kernel
theorem d_D_frame_91 : decode c_yD_frame 91 = .ok (.iadd, 1) := by decide +kernel
theorem d_D_frame_92 : decode c_yD_frame 92 = .ok (.iload 6, 2) := by decide +kernel
theorem d_D_frame_94 : decode c_yD_frame 94 = .ok (.iload 5, 2) := by decide +kernel
theorem d_D_frame_96 : decode c_yD_frame 96 = .ok (.isub, 1) := by decide +kernel
theorem d_D_frame_97 : decode c_yD_frame 97 = .ok (.invokevirtual 82, 3) := by decide +kernel
theorem d_D_frame_100 : decode c_yD_frame 100 = .ok (.iadd, 1) := by decide +kernel
theorem d_D_frame_101 : decode c_yD_frame 101 = .ok (.istore 8, 2) := by decide +kernel
theorem d_D_frame_103 : decode c_yD_frame 103 = .ok (.goto 22, 3) := by decide +kernel
theorem d_D_frame_106 : decode c_yD_frame 106 = .ok (.iload 8, 2) := by decide +kernel
theorem d_D_frame_108 : decode c_yD_frame 108 = .ok (.aload_n 0, 1) := by decide +kernel
theorem d_D_frame_109 : decode c_yD_frame 109 = .ok (.getfield 10, 3) := by decide +kernel
theorem d_D_frame_112 : decode c_yD_frame 112 = .ok (.iload_n 1, 1) := by decide +kernel
theorem d_D_frame_113 : decode c_yD_frame 113 = .ok (.iload 9, 2) := by decide +kernel
theorem d_D_frame_115 : decode c_yD_frame 115 = .ok (.iload 6, 2) := by decide +kernel
theorem d_D_frame_117 : decode c_yD_frame 117 = .ok (.iload 9, 2) := by decide +kernel
theorem d_D_frame_119 : decode c_yD_frame 119 = .ok (.invokevirtual 86, 3) := by decide +kernel
theorem d_D_frame_122 : decode c_yD_frame 122 = .ok (.iadd, 1) := by decide +kernel
theorem d_D_frame_123 : decode c_yD_frame 123 = .ok (.istore 8, 2) := by decide +kernel
theorem d_D_frame_125 : decode c_yD_frame 125 = .ok (.iinc 9 1, 3) := by decide +kernel
theorem d_D_frame_128 : decode c_yD_frame 128 = .ok (.goto (-87), 3) := by decide +kernel
theorem d_D_frame_131 : decode c_yD_frame 131 = .ok (.iload 8, 2) := by decide +kernel
theorem d_D_frame_133 : decode c_yD_frame 133 = .ok (.ireturn, 1) := by decide +kernel
set_option maxHeartbeats 4000000 in
set_option maxRecDepth 100000 in
theorem c_DotSheet_frame (l : Launch) (hnt : l.stackTraces = false) (dC : Nat → ClassId) (dI : Nat → Nat → Nat) (sa : Nat → Nat) (hx_ hst hd hfa hp hw hs hk : Nat) (cL : ClassId) (w h mn : Int) (G : Int → Int64) (pic : Int → Int → Bool) (x y bw bh t : Int) (sz : Nat) (w1 : 1 ≤ w) (w2 : w ≤ 1024) (h1 : 1 ≤ h) (h2 : h ≤ 1024) (mn1 : 0 ≤ mn) (mn2 : mn ≤ 2) (hR : Rep G pic) (x1 : -2147483648 ≤ x) (y1 : -2147483648 ≤ y) (bw1 : -2147483648 ≤ bw) (bh1 : -2147483648 ≤ bh) (t1 : -2147483648 ≤ t) (x2 : x ≤ 2147483647) (y2 : y ≤ 2147483647) (bw2 : bw ≤ 2147483647) (bh2 : bh ≤ 2147483647) (t2 : t ≤ 2147483647) : vx_Met l y_D_frame w_D_frame ({ frames := 8, cells := 2, slots := 12, locals := 143 }) (va_Pc [.ref hx_, .int (iZ x), .int (iZ y), .int (iZ bw), .int (iZ bh), .int (iZ t)] (zPx (dC, dI) vwCl [(hx_, .inr (4, [.ref hp, .ref hst, .ref hd, .ref hfa])), (hp, .inr (2, [.int (iZ w), .int (iZ h), .int (iZ mn), .ref hw, .ref hs, .ref hk])), (hw, .inl (cL, 16384, .inr (.inl (aL G))))] [(cL, .long)] sz sa)) (va_Qi (fun (r : Int32) (u : Int → Int64) => r = iZ (cnt w h (frB x y bw bh t)) ∧ (-4096 ≤ x ∧ x ≤ 4096 ∧ -4096 ≤ y ∧ y ≤ 4096 ∧ 1 ≤ bw ∧ bw ≤ 2048 ∧ 1 ≤ bh ∧ bh ≤ 2048 ∧ 1 ≤ t ∧ t ≤ 200) ∧ Rep u (drw mn (fun px py => onB w h px py && frB x y bw bh t px py) pic)) (fun u => zB (dC, dI) vwCl [(cL, .long)] (va_A [(hx_, .inr (4, [.ref hp, .ref hst, .ref hd, .ref hfa])), (hp, .inr (2, [.int (iZ w), .int (iZ h), .int (iZ mn), .ref hw, .ref hs, .ref hk])), (hw, .inl (cL, 16384, .inr (.inl (aL G))))] sz) [(hx_, .inr (4, [.ref hp, .ref hst, .ref hd, .ref hfa])), (hp, .inr (2, [.int (iZ w), .int (iZ h), .int (iZ mn), .ref hw, .ref hs, .ref hk])), (hw, .inl (cL, 16384, .inr (.inl (aL u))))]) (va_A [(hx_, .inr (4, [.ref hp, .ref hst, .ref hd, .ref hfa])), (hp, .inr (2, [.int (iZ w), .int (iZ h), .int (iZ mn), .ref hw, .ref hs, .ref hk])), (hw, .inl (cL, 16384, .inr (.inl (aL G))))] sz)) (zX (fun E => E = "java/lang/IllegalArgumentException" ∧ ¬ (-4096 ≤ x ∧ x ≤ 4096 ∧ -4096 ≤ y ∧ y ≤ 4096 ∧ 1 ≤ bw ∧ bw ≤ 2048 ∧ 1 ≤ bh ∧ bh ≤ 2048 ∧ 1 ≤ t ∧ t ≤ 200)) (dC, dI) vwCl [(cL, .long)] (va_A [(hx_, .inr (4, [.ref hp, .ref hst, .ref hd, .ref hfa])), (hp, .inr (2, [.int (iZ w), .int (iZ h), .int (iZ mn), .ref hw, .ref hs, .ref hk])), (hw, .inl (cL, 16384, .inr (.inl (aL G))))] sz) [(hx_, .inr (4, [.ref hp, .ref hst, .ref hd, .ref hfa])), (hp, .inr (2, [.int (iZ w), .int (iZ h), .int (iZ mn), .ref hw, .ref hs, .ref hk])), (hw, .inl (cL, 16384, .inr (.inl (aL G))))]) 2 12 (va_A [(hx_, .inr (4, [.ref hp, .ref hst, .ref hd, .ref hfa])), (hp, .inr (2, [.int (iZ w), .int (iZ h), .int (iZ mn), .ref hw, .ref hs, .ref hk])), (hw, .inl (cL, 16384, .inr (.inl (aL G))))] sz) := by
  refine vx_ofW (cc := c_yD_frame) (maxL := 10) (ret := (some .int)) (by decide) rfl ?_
  intro p e s m args below meth c s₁ B hml noEx hv
  obtain ⟨rfl, hsz, hP, hK, hD0, hXK⟩ := hv
  have hx := B.exec
  have hb := B.bytes
  have hr := B.returns
  have hts0 := atoms_spec (ws := w_D_frame) B.pre
  have hts : ∀ w ∈ gT, w.before _ s = true := fun w h => hts0 w (List.mem_cons_of_mem _ h)
  have hown : s.vm.findClass R_D = some m.cls := findClass_of_methodNamed B.named
  have hlocks := B.notSynchronized
  subst hsz
  have hD := hD0.self (sz := s.heap.size)
  generalize hAe : va_A [(hx_, .inr (4, [.ref hp, .ref hst, .ref hd, .ref hfa])), (hp, .inr (2, [.int (iZ w), .int (iZ h), .int (iZ mn), .ref hw, .ref hs, .ref hk])), (hw, .inl (cL, 16384, .inr (.inl (aL G))))] s.heap.size = A at hD hXK ⊢
  have hA : ∀ q : Nat, s.heap.size ≤ q → A q := fun q h => by rw [← hAe]; exact Or.inr h
  obtain ⟨H, hH⟩ : ∃ H, s.heap = H := ⟨_, rfl⟩
  have hS : va_S A s.heap H [] := by rw [← hH]; exact va_S.rf
  rw [hH] at hP
  rw [hH]
  have hl := lv_entry ([.ref hx_, .int (iZ x), .int (iZ y), .int (iZ bw), .int (iZ bh), .int (iZ t)]) (n := 10) (Nat.le_of_ble_eq_true rfl)
  rw [lg_entry_eq]
  generalize (lg_sl ([.ref hx_, .int (iZ x), .int (iZ y), .int (iZ bw), .int (iZ bh), .int (iZ t)]) ++ List.replicate (10 - (lg_sl ([.ref hx_, .int (iZ x), .int (iZ y), .int (iZ bw), .int (iZ bh), .int (iZ t)])).length) Slot.unset).toArray = ls at hl ⊢
  have hl : lv_has ls 10 [(0, .ref hx_), (1, .int (iZ x)), (2, .int (iZ y)), (3, .int (iZ bw)), (4, .int (iZ bh)), (5, .int (iZ t))] := hl
  refine lv_iload_n hx hb d_D_frame_0 rfl (lv_at hl 1 rfl) ?_
  refine lv_iload_n hx hb d_D_frame_1 rfl (lv_at hl 2 rfl) ?_
  refine lv_iload_n hx hb d_D_frame_2 rfl (lv_at hl 3 rfl) ?_
  refine lv_iload hx hb d_D_frame_3 (lv_at hl 4 rfl) ?_
  refine zx_v (w1 := fun (u_5 : Unit) => []) (wr := [(hx_, .inr (4, [.ref hp, .ref hst, .ref hd, .ref hfa])), (hp, .inr (2, [.int (iZ w), .int (iZ h), .int (iZ mn), .ref hw, .ref hs, .ref hk])), (hw, .inl (cL, 16384, .inr (.inl (aL G))))]) (vx_runS (As := [.int (iZ x), .int (iZ y), .int (iZ bw), .int (iZ bh)]) (rest := []) ⟨hx, hb, hml, hown, hts⟩ (c_DotSheet_demandBox l hnt dC dI sa x y bw bh H.size (by first | omega | assumption) (by first | omega | assumption) (by first | omega | assumption) (by first | omega | assumption) (by first | omega | assumption) (by first | omega | assumption) (by first | omega | assumption) (by first | omega | assumption)) (va_cwS 4 hts (gS t_256 t_257 t_1 t_258) rfl rfl rfl (by decide +kernel) ⟨Nat.le_of_ble_eq_true rfl, Nat.le_of_ble_eq_true rfl⟩) ⟨zPx_blind, zPx_pre hP hD hK hXK hS hA [] [] rfl rfl rfl rfl⟩ rfl rfl hl.1 rfl (lv_room (Nat.le_of_ble_eq_true rfl)) d_D_frame_5 ⟨Nat.le_of_ble_eq_true rfl, Nat.le_of_ble_eq_true rfl⟩) hP hD hS hA [] [0, 1, 2] rfl rfl rfl (by decide) (fun E_ ce_ q9_ H locs x_5 hP hD hS hce hcv hcl => ?_) (fun u_5 H locs q_5 hP hD hS => ?_)
  · have hP : va_P (dC, dI) vwCl [(hx_, .inr (4, [.ref hp, .ref hst, .ref hd, .ref hfa])), (hp, .inr (2, [.int (iZ w), .int (iZ h), .int (iZ mn), .ref hw, .ref hs, .ref hk])), (hw, .inl (cL, 16384, .inr (.inl (aL G))))] H := hP
    have hD : va_D A [(hx_, .inr (4, [.ref hp, .ref hst, .ref hd, .ref hfa])), (hp, .inr (2, [.int (iZ w), .int (iZ h), .int (iZ mn), .ref hw, .ref hs, .ref hk])), (hw, .inl (cL, 16384, .inr (.inl (aL G))))] := hD
    exact vx_out (fun x9 h9 => (noEx x9 h9).elim) hlocks hce hcv hcl (fun t ht ha => ⟨(), trivial, ⟨⟨x_5.1, by have z9 := x_5.2; omega⟩, by rw [ht]; exact hP, va_K.moved ha hK, hD⟩, hS.F ht⟩) hS.2.2 (Nat.le_of_ble_eq_true rfl) (Nat.le_of_ble_eq_true rfl)
  have hP : va_P (dC, dI) vwCl [(hx_, .inr (4, [.ref hp, .ref hst, .ref hd, .ref hfa])), (hp, .inr (2, [.int (iZ w), .int (iZ h), .int (iZ mn), .ref hw, .ref hs, .ref hk])), (hw, .inl (cL, 16384, .inr (.inl (aL G))))] H := hP
  have hD : va_D A [(hx_, .inr (4, [.ref hp, .ref hst, .ref hd, .ref hfa])), (hp, .inr (2, [.int (iZ w), .int (iZ h), .int (iZ mn), .ref hw, .ref hs, .ref hk])), (hw, .inl (cL, 16384, .inr (.inl (aL G))))] := hD
  refine lv_iload hx hb d_D_frame_8 (lv_at hl 5 rfl) ?_
  refine vp_callSi (va_runS (As := [.int (iZ t)]) (rest := []) ⟨hx, hb, hml, hown, hts⟩ (c_DotSheet_isThickness l dC dI t (by first | omega | assumption) (by first | omega | assumption)) (va_cwS 1 hts (gS t_265 t_266 t_1 t_267) rfl rfl rfl (by decide +kernel) ⟨Nat.le_of_ble_eq_true rfl, Nat.le_of_ble_eq_true rfl⟩) ⟨zPr_blind, zPr_pre hP hK [] [] rfl rfl⟩ rfl rfl hl.1 rfl (lv_room (Nat.le_of_ble_eq_true rfl)) d_D_frame_10 ⟨Nat.le_of_ble_eq_true rfl, Nat.le_of_ble_eq_true rfl⟩).run (fun r_10 q_10 => ?_)
  obtain rfl := q_10
  refine zx_v (w1 := fun (u_13 : Unit) => []) (wr := [(hx_, .inr (4, [.ref hp, .ref hst, .ref hd, .ref hfa])), (hp, .inr (2, [.int (iZ w), .int (iZ h), .int (iZ mn), .ref hw, .ref hs, .ref hk])), (hw, .inl (cL, 16384, .inr (.inl (aL G))))]) (vx_runS (As := [.int (bI (decide (1 ≤ t ∧ t ≤ 200)))]) (rest := []) ⟨hx, hb, hml, hown, hts⟩ (c_DotSheet_demand l hnt dC dI sa (decide (1 ≤ t ∧ t ≤ 200)) H.size ) (va_cwS 1 hts (gS t_154 t_155 t_1 t_156) rfl rfl rfl (by decide +kernel) ⟨Nat.le_of_ble_eq_true rfl, Nat.le_of_ble_eq_true rfl⟩) ⟨zPx_blind, zPx_pre hP hD hK hXK hS hA [] [] rfl rfl rfl rfl⟩ rfl rfl hl.1 rfl (lv_room (Nat.le_of_ble_eq_true rfl)) d_D_frame_13 ⟨Nat.le_of_ble_eq_true rfl, Nat.le_of_ble_eq_true rfl⟩) hP hD hS hA [] [0, 1, 2] rfl rfl rfl (by decide) (fun E_ ce_ q9_ H locs x_13 hP hD hS hce hcv hcl => ?_) (fun u_13 H locs q_13 hP hD hS => ?_)
  · have hP : va_P (dC, dI) vwCl [(hx_, .inr (4, [.ref hp, .ref hst, .ref hd, .ref hfa])), (hp, .inr (2, [.int (iZ w), .int (iZ h), .int (iZ mn), .ref hw, .ref hs, .ref hk])), (hw, .inl (cL, 16384, .inr (.inl (aL G))))] H := hP
    have hD : va_D A [(hx_, .inr (4, [.ref hp, .ref hst, .ref hd, .ref hfa])), (hp, .inr (2, [.int (iZ w), .int (iZ h), .int (iZ mn), .ref hw, .ref hs, .ref hk])), (hw, .inl (cL, 16384, .inr (.inl (aL G))))] := hD
    exact vx_out (fun x9 h9 => (noEx x9 h9).elim) hlocks hce hcv hcl (fun t ht ha => ⟨(), trivial, ⟨⟨x_13.1, by have z9 := of_decide_eq_false x_13.2; omega⟩, by rw [ht]; exact hP, va_K.moved ha hK, hD⟩, hS.F ht⟩) hS.2.2 (Nat.le_of_ble_eq_true rfl) (Nat.le_of_ble_eq_true rfl)
  have hP : va_P (dC, dI) vwCl [(hx_, .inr (4, [.ref hp, .ref hst, .ref hd, .ref hfa])), (hp, .inr (2, [.int (iZ w), .int (iZ h), .int (iZ mn), .ref hw, .ref hs, .ref hk])), (hw, .inl (cL, 16384, .inr (.inl (aL G))))] H := hP
  have hD : va_D A [(hx_, .inr (4, [.ref hp, .ref hst, .ref hd, .ref hfa])), (hp, .inr (2, [.int (iZ w), .int (iZ h), .int (iZ mn), .ref hw, .ref hs, .ref hk])), (hw, .inl (cL, 16384, .inr (.inl (aL G))))] := hD
  have q_13 := of_decide_eq_true q_13
  refine lv_iload_n hx hb d_D_frame_16 rfl (lv_at hl 1 rfl) ?_
  refine lv_iload_n hx hb d_D_frame_17 rfl (lv_at hl 3 rfl) ?_
  refine zi_add hx hb d_D_frame_18 ?_
  refine lv_iconst (v := iZ (1)) hx hb d_D_frame_19 rfl ?_
  refine zi_sub hx hb d_D_frame_20 ?_
  refine zn_z (fun rt e_rt => ?_)
  refine lv_istore (lv' := [(6, .int (iZ rt)), (0, .ref hx_), (1, .int (iZ x)), (2, .int (iZ y)), (3, .int (iZ bw)), (4, .int (iZ bh)), (5, .int (iZ t))]) hx hb d_D_frame_21 hl (by decide) rfl (fun ls hl => ?_)
  refine lv_iload_n hx hb d_D_frame_23 rfl (lv_at hl 3 rfl) ?_
  refine lv_iload hx hb d_D_frame_24 (lv_at hl 5 rfl) ?_
  refine zi_add hx hb d_D_frame_26 ?_
  refine lv_iconst (v := iZ (1)) hx hb d_D_frame_27 rfl ?_
  refine zi_sub hx hb d_D_frame_28 ?_
  refine zn_z (fun bt e_bt => ?_)
  refine lv_istore (lv' := [(7, .int (iZ bt)), (6, .int (iZ rt)), (0, .ref hx_), (1, .int (iZ x)), (2, .int (iZ y)), (3, .int (iZ bw)), (4, .int (iZ bh)), (5, .int (iZ t))]) hx hb d_D_frame_29 hl (by decide) rfl (fun ls hl => ?_)
  refine lv_iconst (v := iZ (0)) hx hb d_D_frame_31 rfl ?_
  refine lv_istore (lv' := [(8, .int (iZ 0)), (7, .int (iZ bt)), (6, .int (iZ rt)), (0, .ref hx_), (1, .int (iZ x)), (2, .int (iZ y)), (3, .int (iZ bw)), (4, .int (iZ bh)), (5, .int (iZ t))]) hx hb d_D_frame_32 hl (by decide) rfl (fun ls hl => ?_)
  refine lv_iload_n hx hb d_D_frame_34 rfl (lv_at hl 5 rfl) ?_
  refine lv_iconst (v := iZ (0)) hx hb d_D_frame_35 rfl ?_
  refine vp_callSi (va_runS (As := [.int (iZ y), .int (iZ 0)]) (rest := []) ⟨hx, hb, hml, hown, hts⟩ (c_Math_maxi l dC dI y 0 (by first | omega | assumption) (by first | omega | assumption) (by first | omega | assumption) (by first | omega | assumption)) (va_cwS 2 hts (gS t_268 t_269 t_12 t_270) rfl rfl rfl (by decide +kernel) ⟨Nat.le_of_ble_eq_true rfl, Nat.le_of_ble_eq_true rfl⟩) ⟨zPr_blind, zPr_pre hP hK [] [] rfl rfl⟩ rfl rfl hl.1 rfl (lv_room (Nat.le_of_ble_eq_true rfl)) d_D_frame_36 ⟨Nat.le_of_ble_eq_true rfl, Nat.le_of_ble_eq_true rfl⟩).run (fun r_36 q_36 => ?_)
  obtain rfl := q_36
  refine zn_z (fun v9_39 e_v9_39 => ?_)
  refine lv_istore (lv' := [(9, .int (iZ v9_39)), (8, .int (iZ 0)), (7, .int (iZ bt)), (6, .int (iZ rt)), (0, .ref hx_), (1, .int (iZ x)), (2, .int (iZ y)), (3, .int (iZ bw)), (4, .int (iZ bh)), (5, .int (iZ t))]) hx hb d_D_frame_39 hl (by decide) rfl (fun ls hl => ?_)
  have LP_41 : ∀ (n_41 : Nat) (row : Int) (dn : Int) (K : Int → Int64), (0 ≤ row ∧ y ≤ row) → (row ≤ h ∨ row ≤ y) → (row ≤ 4096) → (rwI w h mn (frB x y bw bh t) pic K row dn) → (4096 - row + 8192).toNat < n_41 → ∀ (H : Heap) (locs : List Loc), va_P (dC, dI) vwCl [(hx_, .inr (4, [.ref hp, .ref hst, .ref hd, .ref hfa])), (hp, .inr (2, [.int (iZ w), .int (iZ h), .int (iZ mn), .ref hw, .ref hs, .ref hk])), (hw, .inl (cL, 16384, .inr (.inl (aL K))))] H → va_D A [(hx_, .inr (4, [.ref hp, .ref hst, .ref hd, .ref hfa])), (hp, .inr (2, [.int (iZ w), .int (iZ h), .int (iZ mn), .ref hw, .ref hs, .ref hk])), (hw, .inl (cL, 16384, .inr (.inl (aL K))))] → va_S A s.heap H locs → ∀ (ls : Array Slot), lv_has ls 10 [(0, .ref hx_), (1, .int (iZ x)), (2, .int (iZ y)), (3, .int (iZ bw)), (4, .int (iZ bh)), (5, .int (iZ t)), (6, .int (iZ rt)), (7, .int (iZ bt)), (8, .int (iZ dn)), (9, .int (iZ row))] → W p l e ({ frames := 8, cells := 2, slots := 12, locals := 143 } : Room) s m ([.ref hx_, .int (iZ x), .int (iZ y), .int (iZ bw), .int (iZ bh), .int (iZ t)] : List Value).toArray below meth c H locs 2 12 (vx_MQ below (va_Qi (fun (r : Int32) (u : Int → Int64) => r = iZ (cnt w h (frB x y bw bh t)) ∧ (-4096 ≤ x ∧ x ≤ 4096 ∧ -4096 ≤ y ∧ y ≤ 4096 ∧ 1 ≤ bw ∧ bw ≤ 2048 ∧ 1 ≤ bh ∧ bh ≤ 2048 ∧ 1 ≤ t ∧ t ≤ 200) ∧ Rep u (drw mn (fun px py => onB w h px py && frB x y bw bh t px py) pic)) (fun u => zB (dC, dI) vwCl [(cL, .long)] A [(hx_, .inr (4, [.ref hp, .ref hst, .ref hd, .ref hfa])), (hp, .inr (2, [.int (iZ w), .int (iZ h), .int (iZ mn), .ref hw, .ref hs, .ref hk])), (hw, .inl (cL, 16384, .inr (.inl (aL u))))]) A) (zX (fun E => E = "java/lang/IllegalArgumentException" ∧ ¬ (-4096 ≤ x ∧ x ≤ 4096 ∧ -4096 ≤ y ∧ y ≤ 4096 ∧ 1 ≤ bw ∧ bw ≤ 2048 ∧ 1 ≤ bh ∧ bh ≤ 2048 ∧ 1 ≤ t ∧ t ≤ 200)) (dC, dI) vwCl [(cL, .long)] A [(hx_, .inr (4, [.ref hp, .ref hst, .ref hd, .ref hfa])), (hp, .inr (2, [.int (iZ w), .int (iZ h), .int (iZ mn), .ref hw, .ref hs, .ref hk])), (hw, .inl (cL, 16384, .inr (.inl (aL G))))]) ([.ref hx_, .int (iZ x), .int (iZ y), .int (iZ bw), .int (iZ bh), .int (iZ t)] : List Value).toArray s 2 12 A) (F0 m 41 ls []) := by
    intro n_41
    induction n_41 with
    | zero => intro row dn K i1 i4 i5 i3 hm; exact absurd hm (by omega)
    | succ n_41 ih_41 =>
      intro row dn K i1 i4 i5 i3 hm_41 H locs hP hD hS ls hl
      have i3b := i3.1
      refine lv_iload hx hb d_D_frame_41 (lv_at hl 9 rfl) ?_
      refine lv_iload hx hb d_D_frame_43 (lv_at hl 7 rfl) ?_
      refine lv_aload_n hx hb d_D_frame_45 rfl (lv_at hl 0 rfl) ?_
      refine va_get (D := (dC, dI)) (ci := 4) (v := .ref hp) (C := R_D) (T := T_D) (N := 4) hx hb hts wi_D hown hK hP 0 rfl rfl 0 (by decide) (hts _ t_126) (fun _ h9 => h9) rfl d_D_frame_46 ?_
      refine va_get (D := (dC, dI)) (ci := 2) (v := .int (iZ h)) (C := R_Pa) (T := T_Pa) (N := 6) hx hb hts wi_Pa hown hK hP 1 rfl rfl 1 (by decide) (hts _ t_36) (fun _ h9 => h9) rfl d_D_frame_49 ?_
      refine lv_iconst (v := iZ (1)) hx hb d_D_frame_52 rfl ?_
      refine zi_sub hx hb d_D_frame_53 ?_
      refine vp_callSi (va_runS (As := [.int (iZ bt), .int (iZ (h - 1))]) (rest := [.int (iZ row)]) ⟨hx, hb, hml, hown, hts⟩ (c_Math_mini l dC dI bt (h - 1) (by first | omega | assumption) (by first | omega | assumption) (by first | omega | assumption) (by first | omega | assumption)) (va_cwS 2 hts (gS t_271 t_272 t_12 t_273) rfl rfl rfl (by decide +kernel) ⟨Nat.le_of_ble_eq_true rfl, Nat.le_of_ble_eq_true rfl⟩) ⟨zPr_blind, zPr_pre hP hK [] [] rfl rfl⟩ rfl rfl hl.1 rfl (lv_room (Nat.le_of_ble_eq_true rfl)) d_D_frame_54 ⟨Nat.le_of_ble_eq_true rfl, Nat.le_of_ble_eq_true rfl⟩).run (fun r_54 q_54 => ?_)
      obtain rfl := q_54
      refine zi_gt (tgt := 131) hx hb d_D_frame_57 (by decide) (by omega) (by omega) (by omega) (by omega) (fun c_57 => ?_) (fun c_57 => ?_)
      · have e9 := rw_fin i3 (by omega) (by omega) (Classical.byCases (fun (q9 : row ≤ h) => Or.inl q9) (fun q9 => Or.inr (fun x9 y9 p9 q8 => (by unfold frB; exact decide_eq_false (by omega))))) (fun x9 y9 q1 q2 => (by unfold frB; exact decide_eq_false (by omega)))
        refine lv_iload hx hb d_D_frame_131 (lv_at hl 8 rfl) ?_
        refine vx_ret ?_
        exact W.iret hx hb hr (fun t ht hW => ⟨⟨_, K, rfl, ⟨congrArg iZ e9.1, by omega, e9.2⟩, by rw [ht]; exact hP, va_K.moved hW.alike hK, hD⟩, hS.F ht⟩) hS.2.2 d_D_frame_133
      · refine lv_iload hx hb d_D_frame_60 (lv_at hl 9 rfl) ?_
        refine lv_iload_n hx hb d_D_frame_62 rfl (lv_at hl 2 rfl) ?_
        refine lv_iload hx hb d_D_frame_63 (lv_at hl 5 rfl) ?_
        refine zi_add hx hb d_D_frame_65 ?_
        refine lv_iload hx hb d_D_frame_66 (lv_at hl 7 rfl) ?_
        refine lv_iload hx hb d_D_frame_68 (lv_at hl 5 rfl) ?_
        refine zi_sub hx hb d_D_frame_70 ?_
        refine vp_callSi (va_runS (As := [.int (iZ row), .int (iZ (y + t)), .int (iZ (bt - t))]) (rest := []) ⟨hx, hb, hml, hown, hts⟩ (c_DotSheet_isWithin l dC dI row (y + t) (bt - t) (by first | omega | assumption) (by first | omega | assumption) (by first | omega | assumption) (by first | omega | assumption) (by first | omega | assumption) (by first | omega | assumption)) (va_cwS 3 hts (gS t_151 t_152 t_1 t_153) rfl rfl rfl (by decide +kernel) ⟨Nat.le_of_ble_eq_true rfl, Nat.le_of_ble_eq_true rfl⟩) ⟨zPr_blind, zPr_pre hP hK [] [] rfl rfl⟩ rfl rfl hl.1 rfl (lv_room (Nat.le_of_ble_eq_true rfl)) d_D_frame_71 ⟨Nat.le_of_ble_eq_true rfl, Nat.le_of_ble_eq_true rfl⟩).run (fun r_71 q_71 => ?_)
        obtain rfl := q_71
        refine zb_if_eq (tgt := 106) hx hb d_D_frame_74 (by decide) (fun c_74 => ?_) (fun c_74 => ?_)
        · have c_74 := of_decide_eq_false c_74
          refine lv_iload hx hb d_D_frame_106 (lv_at hl 8 rfl) ?_
          refine lv_aload_n hx hb d_D_frame_108 rfl (lv_at hl 0 rfl) ?_
          refine va_get (D := (dC, dI)) (ci := 4) (v := .ref hp) (C := R_D) (T := T_D) (N := 4) hx hb hts wi_D hown hK hP 0 rfl rfl 0 (by decide) (hts _ t_126) (fun _ h9 => h9) rfl d_D_frame_109 ?_
          refine lv_iload_n hx hb d_D_frame_112 rfl (lv_at hl 1 rfl) ?_
          refine lv_iload hx hb d_D_frame_113 (lv_at hl 9 rfl) ?_
          refine lv_iload hx hb d_D_frame_115 (lv_at hl 6 rfl) ?_
          refine lv_iload hx hb d_D_frame_117 (lv_at hl 9 rfl) ?_
          refine zc_i (w1 := fun (u_119 : Int → Int64) => [(hp, .inr (2, [.int (iZ w), .int (iZ h), .int (iZ mn), .ref hw, .ref hs, .ref hk])), (hw, .inl (cL, 16384, .inr (.inl (aL u_119))))]) (wr := [(hx_, .inr (4, [.ref hp, .ref hst, .ref hd, .ref hfa]))]) (va_runV (As := [.int (iZ x), .int (iZ row), .int (iZ rt), .int (iZ row)]) (rest := [.int (iZ dn)]) ⟨hx, hb, hml, hown, hts⟩ (c_Paper_drawBox l dC dI hp hw hs hk cL w h mn K (drw mn (fun px py => onB w h px py && (frB x y bw bh t px py && decide (py < row))) pic) x row rt row H.size (by first | omega | assumption) (by first | omega | assumption) (by first | omega | assumption) (by first | omega | assumption) (by first | omega | assumption) (by first | omega | assumption) (by first | omega | assumption) (by first | omega | assumption) (by first | omega | assumption) (by first | omega | assumption) (by first | omega | assumption) (by first | omega | assumption) (by first | omega | assumption) (by first | omega | assumption) (by first | omega | assumption)) (cwV 4 hts (gV t_292 t_279 t_280 t_2 t_281) rfl rfl rfl (by decide +kernel) ⟨Nat.le_of_ble_eq_true rfl, Nat.le_of_ble_eq_true rfl⟩) ⟨zPm_blind, va_recv hK hP (ci := 2) (q0 := 1) rfl rfl, zPm_pre hP hD hK [1, 2] [0] rfl rfl rfl rfl⟩ rfl rfl hl.1 rfl (lv_room (Nat.le_of_ble_eq_true rfl)) d_D_frame_119 ⟨Nat.le_of_ble_eq_true rfl, Nat.le_of_ble_eq_true rfl⟩) hP hD hS hA [1, 2] [0] rfl rfl rfl (by decide) (fun r_119 u_119 H locs q_119 hP hD hS => ?_)
          have hP : va_P (dC, dI) vwCl [(hx_, .inr (4, [.ref hp, .ref hst, .ref hd, .ref hfa])), (hp, .inr (2, [.int (iZ w), .int (iZ h), .int (iZ mn), .ref hw, .ref hs, .ref hk])), (hw, .inl (cL, 16384, .inr (.inl (aL u_119))))] H := hP
          have hD : va_D A [(hx_, .inr (4, [.ref hp, .ref hst, .ref hd, .ref hfa])), (hp, .inr (2, [.int (iZ w), .int (iZ h), .int (iZ mn), .ref hw, .ref hs, .ref hk])), (hw, .inl (cL, 16384, .inr (.inl (aL u_119))))] := hD
          obtain ⟨rfl, q_119⟩ := q_119
          refine zi_add hx hb d_D_frame_122 ?_
          refine zn_z (fun v8_123 e_v8_123 => ?_)
          refine lv_istore (lv' := [(8, .int (iZ v8_123)), (0, .ref hx_), (1, .int (iZ x)), (2, .int (iZ y)), (3, .int (iZ bw)), (4, .int (iZ bh)), (5, .int (iZ t)), (6, .int (iZ rt)), (7, .int (iZ bt)), (9, .int (iZ row))]) hx hb d_D_frame_123 hl (by decide) rfl (fun ls hl => ?_)
          refine lv_iinc (v := iZ (row + 1)) (lv' := [(9, .int (iZ (row + 1))), (8, .int (iZ v8_123)), (0, .ref hx_), (1, .int (iZ x)), (2, .int (iZ y)), (3, .int (iZ bw)), (4, .int (iZ bh)), (5, .int (iZ t)), (6, .int (iZ rt)), (7, .int (iZ bt))]) hx hb d_D_frame_125 hl (k := 9) rfl (iZ_add _ _) (by decide) rfl (fun ls hl => ?_)
          refine lv_goto (tgt := 41) hx hb d_D_frame_128 (by decide) ?_
          exact ih_41 (row + 1) v8_123 u_119 (by omega) (by omega) (by omega) (by first | (rw [e_v8_101]; exact rw_step i3 (by omega) (by omega) q_97 (fun px py => by rw [e_rt]; exact fr_ring (by omega) (by omega) (by omega) px py)) | (rw [e_v8_123, boxN_cnt w1 h1]; exact rw_step i3 (by omega) (by omega) q_119 (fun px py => by rw [e_rt]; exact fr_box (by omega) (by omega) (by omega) (by omega) px py))) (by omega) _ _ hP hD hS ls (lv_sub hl [2, 3, 4, 5, 6, 7, 8, 9, 1, 0] rfl)
        · have c_74 := of_decide_eq_true c_74
          refine lv_iload hx hb d_D_frame_77 (lv_at hl 8 rfl) ?_
          refine lv_aload_n hx hb d_D_frame_79 rfl (lv_at hl 0 rfl) ?_
          refine va_get (D := (dC, dI)) (ci := 4) (v := .ref hp) (C := R_D) (T := T_D) (N := 4) hx hb hts wi_D hown hK hP 0 rfl rfl 0 (by decide) (hts _ t_126) (fun _ h9 => h9) rfl d_D_frame_80 ?_
          refine lv_iload hx hb d_D_frame_83 (lv_at hl 9 rfl) ?_
          refine lv_iload_n hx hb d_D_frame_85 rfl (lv_at hl 1 rfl) ?_
          refine lv_iload hx hb d_D_frame_86 (lv_at hl 6 rfl) ?_
          refine lv_iload_n hx hb d_D_frame_88 rfl (lv_at hl 1 rfl) ?_
          refine lv_iload hx hb d_D_frame_89 (lv_at hl 5 rfl) ?_
          refine zi_add hx hb d_D_frame_91 ?_
          refine lv_iload hx hb d_D_frame_92 (lv_at hl 6 rfl) ?_
          refine lv_iload hx hb d_D_frame_94 (lv_at hl 5 rfl) ?_
          refine zi_sub hx hb d_D_frame_96 ?_
          refine zc_i (w1 := fun (u_97 : Int → Int64) => [(hp, .inr (2, [.int (iZ w), .int (iZ h), .int (iZ mn), .ref hw, .ref hs, .ref hk])), (hw, .inl (cL, 16384, .inr (.inl (aL u_97))))]) (wr := [(hx_, .inr (4, [.ref hp, .ref hst, .ref hd, .ref hfa]))]) (va_runV (As := [.int (iZ row), .int (iZ x), .int (iZ rt), .int (iZ (x + t)), .int (iZ (rt - t))]) (rest := [.int (iZ dn)]) ⟨hx, hb, hml, hown, hts⟩ (c_Paper_drawRing l dC dI hp hw hs hk cL w h mn K (drw mn (fun px py => onB w h px py && (frB x y bw bh t px py && decide (py < row))) pic) row x rt (x + t) (rt - t) H.size (by first | omega | assumption) (by first | omega | assumption) (by first | omega | assumption) (by first | omega | assumption) (by first | omega | assumption) (by first | omega | assumption) (by first | omega | assumption) (by first | omega | assumption) (by first | omega | assumption) (by first | omega | assumption) (by first | omega | assumption) (by first | omega | assumption) (by first | omega | assumption) (by first | omega | assumption) (by first | omega | assumption) (by first | omega | assumption) (by first | omega | assumption) (by first | omega | assumption)) (cwV 5 hts (gV t_274 t_275 t_276 t_2 t_277) rfl rfl rfl (by decide +kernel) ⟨Nat.le_of_ble_eq_true rfl, Nat.le_of_ble_eq_true rfl⟩) ⟨zPm_blind, va_recv hK hP (ci := 2) (q0 := 1) rfl rfl, zPm_pre hP hD hK [1, 2] [0] rfl rfl rfl rfl⟩ rfl rfl hl.1 rfl (lv_room (Nat.le_of_ble_eq_true rfl)) d_D_frame_97 ⟨Nat.le_of_ble_eq_true rfl, Nat.le_of_ble_eq_true rfl⟩) hP hD hS hA [1, 2] [0] rfl rfl rfl (by decide) (fun r_97 u_97 H locs q_97 hP hD hS => ?_)
          have hP : va_P (dC, dI) vwCl [(hx_, .inr (4, [.ref hp, .ref hst, .ref hd, .ref hfa])), (hp, .inr (2, [.int (iZ w), .int (iZ h), .int (iZ mn), .ref hw, .ref hs, .ref hk])), (hw, .inl (cL, 16384, .inr (.inl (aL u_97))))] H := hP
          have hD : va_D A [(hx_, .inr (4, [.ref hp, .ref hst, .ref hd, .ref hfa])), (hp, .inr (2, [.int (iZ w), .int (iZ h), .int (iZ mn), .ref hw, .ref hs, .ref hk])), (hw, .inl (cL, 16384, .inr (.inl (aL u_97))))] := hD
          obtain ⟨rfl, q_97⟩ := q_97
          refine zi_add hx hb d_D_frame_100 ?_
          refine zn_z (fun v8_101 e_v8_101 => ?_)
          refine lv_istore (lv' := [(8, .int (iZ v8_101)), (0, .ref hx_), (1, .int (iZ x)), (2, .int (iZ y)), (3, .int (iZ bw)), (4, .int (iZ bh)), (5, .int (iZ t)), (6, .int (iZ rt)), (7, .int (iZ bt)), (9, .int (iZ row))]) hx hb d_D_frame_101 hl (by decide) rfl (fun ls hl => ?_)
          refine lv_goto (tgt := 125) hx hb d_D_frame_103 (by decide) ?_
          refine lv_iinc (v := iZ (row + 1)) (lv' := [(9, .int (iZ (row + 1))), (8, .int (iZ v8_101)), (0, .ref hx_), (1, .int (iZ x)), (2, .int (iZ y)), (3, .int (iZ bw)), (4, .int (iZ bh)), (5, .int (iZ t)), (6, .int (iZ rt)), (7, .int (iZ bt))]) hx hb d_D_frame_125 hl (k := 9) rfl (iZ_add _ _) (by decide) rfl (fun ls hl => ?_)
          refine lv_goto (tgt := 41) hx hb d_D_frame_128 (by decide) ?_
          exact ih_41 (row + 1) v8_101 u_97 (by omega) (by omega) (by omega) (by first | (rw [e_v8_101]; exact rw_step i3 (by omega) (by omega) q_97 (fun px py => by rw [e_rt]; exact fr_ring (by omega) (by omega) (by omega) px py)) | (rw [e_v8_123, boxN_cnt w1 h1]; exact rw_step i3 (by omega) (by omega) q_119 (fun px py => by rw [e_rt]; exact fr_box (by omega) (by omega) (by omega) (by omega) px py))) (by omega) _ _ hP hD hS ls (lv_sub hl [2, 3, 4, 5, 6, 7, 8, 9, 1, 0] rfl)
  exact LP_41 _ v9_39 0 G (by omega) (by omega) (by omega) (rw_0 hR (by omega) (fun x9 y9 p9 q9 => by unfold frB; exact decide_eq_false (by omega))) (Nat.lt_succ_self _) _ _ hP hD hS ls (lv_sub hl [4, 5, 6, 7, 8, 9, 3, 2, 1, 0] rfl)
theorem d_D_drawEllipseRow_0 : decode c_yD_drawEllipseRow 0 = .ok (.iload_n 2, 1) := by decide +kernel
theorem d_D_drawEllipseRow_1 : decode c_yD_drawEllipseRow 1 = .ok (.iload_n 3, 1) := by decide +kernel
theorem d_D_drawEllipseRow_2 : decode c_yD_drawEllipseRow 2 = .ok (.iload 4, 2) := by decide +kernel
theorem d_D_drawEllipseRow_4 : decode c_yD_drawEllipseRow 4 = .ok (.invokestatic 217, 3) := by decide +kernel
theorem d_D_drawEllipseRow_7 : decode c_yD_drawEllipseRow 7 = .ok (.iadd, 1) := by decide +kernel
theorem d_D_drawEllipseRow_8 : decode c_yD_drawEllipseRow 8 = .ok (.istore 6, 2) := by decide +kernel
theorem d_D_drawEllipseRow_10 : decode c_yD_drawEllipseRow 10 = .ok (.iload_n 2, 1) := by decide +kernel
theorem d_D_drawEllipseRow_11 : decode c_yD_drawEllipseRow 11 = .ok (.iload_n 3, 1) := by decide +kernel
theorem d_D_drawEllipseRow_12 : decode c_yD_drawEllipseRow 12 = .ok (.iload 4, 2) := by decide +kernel
theorem d_D_drawEllipseRow_14 : decode c_yD_drawEllipseRow 14 = .ok (.invokestatic 220, 3) := by decide +kernel
theorem d_D_drawEllipseRow_17 : decode c_yD_drawEllipseRow 17 = .ok (.iadd, 1) := by decide +kernel
theorem d_D_drawEllipseRow_18 : decode c_yD_drawEllipseRow 18 = .ok (.istore 7, 2) := by decide +kernel
theorem d_D_drawEllipseRow_20 : decode c_yD_drawEllipseRow 20 = .ok (.iload 5, 2) := by decide +kernel
theorem d_D_drawEllipseRow_22 : decode c_yD_drawEllipseRow 22 = .ok (.iconst (-1), 1) := by decide +kernel
theorem d_D_drawEllipseRow_23 : decode c_yD_drawEllipseRow 23 = .ok (.if_icmp .ne 17, 3) := by decide +kernel
theorem d_D_drawEllipseRow_26 : decode c_yD_drawEllipseRow 26 = .ok (.aload_n 0, 1) := by decide +kernel
theorem d_D_drawEllipseRow_27 : decode c_yD_drawEllipseRow 27 = .ok (.getfield 10, 3) := by decide +kernel
theorem d_D_drawEllipseRow_30 : decode c_yD_drawEllipseRow 30 = .ok (.iload 6, 2) := by decide +kernel
theorem d_D_drawEllipseRow_32 : decode c_yD_drawEllipseRow 32 = .ok (.iload_n 1, 1) := by decide +kernel
theorem d_D_drawEllipseRow_33 : decode c_yD_drawEllipseRow 33 = .ok (.iload 7, 2) := by decide +kernel
theorem d_D_drawEllipseRow_35 : decode c_yD_drawEllipseRow 35 = .ok (.iload_n 1, 1) := by decide +kernel
theorem d_D_drawEllipseRow_36 : decode c_yD_drawEllipseRow 36 = .ok (.invokevirtual 86, 3) := by decide +kernel
theorem d_D_drawEllipseRow_39 : decode c_yD_drawEllipseRow 39 = .ok (.ireturn, 1) := by decide +kernel
theorem d_D_drawEllipseRow_40 : decode c_yD_drawEllipseRow 40 = .ok (.aload_n 0, 1) := by decide +kernel
theorem d_D_drawEllipseRow_41 : decode c_yD_drawEllipseRow 41 = .ok (.getfield 10, 3) := by decide +kernel
theorem d_D_drawEllipseRow_44 : decode c_yD_drawEllipseRow 44 = .ok (.iload_n 1, 1) := by decide +kernel
theorem d_D_drawEllipseRow_45 : decode c_yD_drawEllipseRow 45 = .ok (.iload 6, 2) := by decide +kernel
theorem d_D_drawEllipseRow_47 : decode c_yD_drawEllipseRow 47 = .ok (.iload 7, 2) := by decide +kernel
theorem d_D_drawEllipseRow_49 : decode c_yD_drawEllipseRow 49 = .ok (.iload_n 2, 1) := by decide +kernel
theorem d_D_drawEllipseRow_50 : decode c_yD_drawEllipseRow 50 = .ok (.iload_n 3, 1) := by decide +kernel
theorem d_D_drawEllipseRow_51 : decode c_yD_drawEllipseRow 51 = .ok (.iload 5, 2) := by decide +kernel
theorem d_D_drawEllipseRow_53 : decode c_yD_drawEllipseRow 53 = .ok (.invokestatic 217, 3) := by decide +kernel
theorem d_D_drawEllipseRow_56 : decode c_yD_drawEllipseRow 56 = .ok (.iadd, 1) := by decide +kernel
theorem d_D_drawEllipseRow_57 : decode c_yD_drawEllipseRow 57 = .ok (.iload_n 2, 1) := by decide +kernel
theorem d_D_drawEllipseRow_58 : decode c_yD_drawEllipseRow 58 = .ok (.iload_n 3, 1) := by decide +kernel
theorem d_D_drawEllipseRow_59 : decode c_yD_drawEllipseRow 59 = .ok (.iload 5, 2) := by decide +kernel
theorem d_D_drawEllipseRow_61 : decode c_yD_drawEllipseRow 61 = .ok (.invokestatic 220, 3) := by decide +kernel
theorem d_D_drawEllipseRow_64 : decode c_yD_drawEllipseRow 64 = .ok (.iadd, 1) := by decide +kernel
theorem d_D_drawEllipseRow_65 : decode c_yD_drawEllipseRow 65 = .ok (.invokevirtual 82, 3) := by decide +kernel
theorem d_D_drawEllipseRow_68 : decode c_yD_drawEllipseRow 68 = .ok (.ireturn, 1) := by decide +kernel
set_option maxHeartbeats 4000000 in
set_option maxRecDepth 100000 in
theorem c_DotSheet_drawEllipseRow (l : Launch) (dC : Nat → ClassId) (dI : Nat → Nat → Nat) (hx_ hst hd hfa hp hw hs hk : Nat) (cL : ClassId) (w h mn : Int) (G : Int → Int64) (pic : Int → Int → Bool) (row x bw o i : Int) (sz : Nat) (w1 : 1 ≤ w) (w2 : w ≤ 1024) (h1 : 1 ≤ h) (h2 : h ≤ 1024) (mn1 : 0 ≤ mn) (mn2 : mn ≤ 2) (hR : Rep G pic) (r1 : 0 ≤ row) (r2 : row < 1024) (x1 : -4096 ≤ x) (x2 : x ≤ 4096) (b1 : 1 ≤ bw) (b2 : bw ≤ 2048) (o1 : 0 ≤ o) (o2 : o ≤ bw) (i1 : -1 ≤ i) (i2 : i ≤ o) : Met l y_D_drawEllipseRow w_D_drawEllipseRow ({ frames := 4, cells := 0, slots := 0, locals := 102 }) (va_Pc [.ref hx_, .int (iZ row), .int (iZ x), .int (iZ bw), .int (iZ o), .int (iZ i)] (zPm (dC, dI) vwCl [(hx_, .inr (4, [.ref hp, .ref hst, .ref hd, .ref hfa])), (hp, .inr (2, [.int (iZ w), .int (iZ h), .int (iZ mn), .ref hw, .ref hs, .ref hk])), (hw, .inl (cL, 16384, .inr (.inl (aL G))))] [(cL, .long)] sz)) (va_Qi (fun (r : Int32) (u : Int → Int64) => r = iZ (cnt w h (elR row x bw o i)) ∧ Rep u (drw mn (fun x9 y9 => onB w h x9 y9 && elR row x bw o i x9 y9) pic)) (fun u => zB (dC, dI) vwCl [(cL, .long)] (va_A [(hx_, .inr (4, [.ref hp, .ref hst, .ref hd, .ref hfa])), (hp, .inr (2, [.int (iZ w), .int (iZ h), .int (iZ mn), .ref hw, .ref hs, .ref hk])), (hw, .inl (cL, 16384, .inr (.inl (aL G))))] sz) [(hx_, .inr (4, [.ref hp, .ref hst, .ref hd, .ref hfa])), (hp, .inr (2, [.int (iZ w), .int (iZ h), .int (iZ mn), .ref hw, .ref hs, .ref hk])), (hw, .inl (cL, 16384, .inr (.inl (aL u))))]) (va_A [(hx_, .inr (4, [.ref hp, .ref hst, .ref hd, .ref hfa])), (hp, .inr (2, [.int (iZ w), .int (iZ h), .int (iZ mn), .ref hw, .ref hs, .ref hk])), (hw, .inl (cL, 16384, .inr (.inl (aL G))))] sz)) 0 0 (va_A [(hx_, .inr (4, [.ref hp, .ref hst, .ref hd, .ref hfa])), (hp, .inr (2, [.int (iZ w), .int (iZ h), .int (iZ mn), .ref hw, .ref hs, .ref hk])), (hw, .inl (cL, 16384, .inr (.inl (aL G))))] sz) := by
  refine Met.ofW (cc := c_yD_drawEllipseRow) (maxL := 8) (ret := (some .int)) (by decide) rfl ?_
  intro p e s m args below meth c s₁ B hml hv
  obtain ⟨rfl, hsz, hP, hK, hD0⟩ := hv
  have hx := B.exec
  have hb := B.bytes
  have hr := B.returns
  have hts0 := atoms_spec (ws := w_D_drawEllipseRow) B.pre
  have hts : ∀ w ∈ gT, w.before _ s = true := fun w h => hts0 w (List.mem_cons_of_mem _ h)
  have hown : s.vm.findClass R_D = some m.cls := findClass_of_methodNamed B.named
  have hlocks := B.notSynchronized
  subst hsz
  have hD := hD0.self (sz := s.heap.size)
  generalize hAe : va_A [(hx_, .inr (4, [.ref hp, .ref hst, .ref hd, .ref hfa])), (hp, .inr (2, [.int (iZ w), .int (iZ h), .int (iZ mn), .ref hw, .ref hs, .ref hk])), (hw, .inl (cL, 16384, .inr (.inl (aL G))))] s.heap.size = A at hD ⊢
  have hA : ∀ q : Nat, s.heap.size ≤ q → A q := fun q h => by rw [← hAe]; exact Or.inr h
  obtain ⟨H, hH⟩ : ∃ H, s.heap = H := ⟨_, rfl⟩
  have hS : va_S A s.heap H [] := by rw [← hH]; exact va_S.rf
  rw [hH] at hP
  rw [hH]
  have hl := lv_entry ([.ref hx_, .int (iZ row), .int (iZ x), .int (iZ bw), .int (iZ o), .int (iZ i)]) (n := 8) (Nat.le_of_ble_eq_true rfl)
  rw [lg_entry_eq]
  generalize (lg_sl ([.ref hx_, .int (iZ row), .int (iZ x), .int (iZ bw), .int (iZ o), .int (iZ i)]) ++ List.replicate (8 - (lg_sl ([.ref hx_, .int (iZ row), .int (iZ x), .int (iZ bw), .int (iZ o), .int (iZ i)])).length) Slot.unset).toArray = ls at hl ⊢
  have hl : lv_has ls 8 [(0, .ref hx_), (1, .int (iZ row)), (2, .int (iZ x)), (3, .int (iZ bw)), (4, .int (iZ o)), (5, .int (iZ i))] := hl
  refine lv_iload_n hx hb d_D_drawEllipseRow_0 rfl (lv_at hl 2 rfl) ?_
  refine lv_iload_n hx hb d_D_drawEllipseRow_1 rfl (lv_at hl 3 rfl) ?_
  refine lv_iload hx hb d_D_drawEllipseRow_2 (lv_at hl 4 rfl) ?_
  refine vp_callSi (va_runS (As := [.int (iZ bw), .int (iZ o)]) (rest := [.int (iZ x)]) ⟨hx, hb, hml, hown, hts⟩ (c_Reckoning_firstStep l dC dI bw o (by first | omega | assumption) (by first | omega | assumption) (by first | omega | assumption)) (va_cwS 2 hts (gS t_406 t_407 t_14 t_408) rfl rfl rfl (by decide +kernel) ⟨Nat.le_of_ble_eq_true rfl, Nat.le_of_ble_eq_true rfl⟩) ⟨zPr_blind, zPr_pre hP hK [] [] rfl rfl⟩ rfl rfl hl.1 rfl (lv_room (Nat.le_of_ble_eq_true rfl)) d_D_drawEllipseRow_4 ⟨Nat.le_of_ble_eq_true rfl, Nat.le_of_ble_eq_true rfl⟩).run (fun r_4 q_4 => ?_)
  obtain rfl := q_4
  refine zi_add hx hb d_D_drawEllipseRow_7 ?_
  refine zn_z (fun lf e_lf => ?_)
  refine lv_istore (lv' := [(6, .int (iZ lf)), (0, .ref hx_), (1, .int (iZ row)), (2, .int (iZ x)), (3, .int (iZ bw)), (4, .int (iZ o)), (5, .int (iZ i))]) hx hb d_D_drawEllipseRow_8 hl (by decide) rfl (fun ls hl => ?_)
  refine lv_iload_n hx hb d_D_drawEllipseRow_10 rfl (lv_at hl 3 rfl) ?_
  refine lv_iload_n hx hb d_D_drawEllipseRow_11 rfl (lv_at hl 4 rfl) ?_
  refine lv_iload hx hb d_D_drawEllipseRow_12 (lv_at hl 5 rfl) ?_
  refine vp_callSi (va_runS (As := [.int (iZ bw), .int (iZ o)]) (rest := [.int (iZ x)]) ⟨hx, hb, hml, hown, hts⟩ (c_Reckoning_lastStep l dC dI bw o (by first | omega | assumption) (by first | omega | assumption) (by first | omega | assumption) (by first | omega | assumption)) (va_cwS 2 hts (gS t_412 t_413 t_14 t_414) rfl rfl rfl (by decide +kernel) ⟨Nat.le_of_ble_eq_true rfl, Nat.le_of_ble_eq_true rfl⟩) ⟨zPr_blind, zPr_pre hP hK [] [] rfl rfl⟩ rfl rfl hl.1 rfl (lv_room (Nat.le_of_ble_eq_true rfl)) d_D_drawEllipseRow_14 ⟨Nat.le_of_ble_eq_true rfl, Nat.le_of_ble_eq_true rfl⟩).run (fun r_14 q_14 => ?_)
  obtain rfl := q_14
  refine zi_add hx hb d_D_drawEllipseRow_17 ?_
  refine zn_z (fun rt e_rt => ?_)
  refine lv_istore (lv' := [(7, .int (iZ rt)), (6, .int (iZ lf)), (0, .ref hx_), (1, .int (iZ row)), (2, .int (iZ x)), (3, .int (iZ bw)), (4, .int (iZ o)), (5, .int (iZ i))]) hx hb d_D_drawEllipseRow_18 hl (by decide) rfl (fun ls hl => ?_)
  refine lv_iload hx hb d_D_drawEllipseRow_20 (lv_at hl 7 rfl) ?_
  refine lv_iconst (v := iZ (-1)) hx hb d_D_drawEllipseRow_22 rfl ?_
  refine zi_ne (tgt := 40) hx hb d_D_drawEllipseRow_23 (by decide) (by omega) (by omega) (by omega) (by omega) (fun c_23 => ?_) (fun c_23 => ?_)
  · refine lv_aload_n hx hb d_D_drawEllipseRow_40 rfl (lv_at hl 2 rfl) ?_
    refine va_get (D := (dC, dI)) (ci := 4) (v := .ref hp) (C := R_D) (T := T_D) (N := 4) hx hb hts wi_D hown hK hP 0 rfl rfl 0 (by decide) (hts _ t_126) (fun _ h9 => h9) rfl d_D_drawEllipseRow_41 ?_
    refine lv_iload_n hx hb d_D_drawEllipseRow_44 rfl (lv_at hl 3 rfl) ?_
    refine lv_iload hx hb d_D_drawEllipseRow_45 (lv_at hl 1 rfl) ?_
    refine lv_iload hx hb d_D_drawEllipseRow_47 (lv_at hl 0 rfl) ?_
    refine lv_iload_n hx hb d_D_drawEllipseRow_49 rfl (lv_at hl 4 rfl) ?_
    refine lv_iload_n hx hb d_D_drawEllipseRow_50 rfl (lv_at hl 5 rfl) ?_
    refine lv_iload hx hb d_D_drawEllipseRow_51 (lv_at hl 7 rfl) ?_
    refine vp_callSi (va_runS (As := [.int (iZ bw), .int (iZ i)]) (rest := [.int (iZ x), .int (iZ rt), .int (iZ lf), .int (iZ row), .ref hp]) ⟨hx, hb, hml, hown, hts⟩ (c_Reckoning_firstStep l dC dI bw i (by first | omega | assumption) (by first | omega | assumption) (by first | omega | assumption)) (va_cwS 2 hts (gS t_406 t_407 t_14 t_408) rfl rfl rfl (by decide +kernel) ⟨Nat.le_of_ble_eq_true rfl, Nat.le_of_ble_eq_true rfl⟩) ⟨zPr_blind, zPr_pre hP hK [] [] rfl rfl⟩ rfl rfl hl.1 rfl (lv_room (Nat.le_of_ble_eq_true rfl)) d_D_drawEllipseRow_53 ⟨Nat.le_of_ble_eq_true rfl, Nat.le_of_ble_eq_true rfl⟩).run (fun r_53 q_53 => ?_)
    obtain rfl := q_53
    refine zi_add hx hb d_D_drawEllipseRow_56 ?_
    refine lv_iload_n hx hb d_D_drawEllipseRow_57 rfl (lv_at hl 4 rfl) ?_
    refine lv_iload_n hx hb d_D_drawEllipseRow_58 rfl (lv_at hl 5 rfl) ?_
    refine lv_iload hx hb d_D_drawEllipseRow_59 (lv_at hl 7 rfl) ?_
    refine vp_callSi (va_runS (As := [.int (iZ bw), .int (iZ i)]) (rest := [.int (iZ x), .int (iZ (x + ((bw - i) / 2))), .int (iZ rt), .int (iZ lf), .int (iZ row), .ref hp]) ⟨hx, hb, hml, hown, hts⟩ (c_Reckoning_lastStep l dC dI bw i (by first | omega | assumption) (by first | omega | assumption) (by first | omega | assumption) (by first | omega | assumption)) (va_cwS 2 hts (gS t_412 t_413 t_14 t_414) rfl rfl rfl (by decide +kernel) ⟨Nat.le_of_ble_eq_true rfl, Nat.le_of_ble_eq_true rfl⟩) ⟨zPr_blind, zPr_pre hP hK [] [] rfl rfl⟩ rfl rfl hl.1 rfl (lv_room (Nat.le_of_ble_eq_true rfl)) d_D_drawEllipseRow_61 ⟨Nat.le_of_ble_eq_true rfl, Nat.le_of_ble_eq_true rfl⟩).run (fun r_61 q_61 => ?_)
    obtain rfl := q_61
    refine zi_add hx hb d_D_drawEllipseRow_64 ?_
    refine zc_i (w1 := fun (u_65 : Int → Int64) => [(hp, .inr (2, [.int (iZ w), .int (iZ h), .int (iZ mn), .ref hw, .ref hs, .ref hk])), (hw, .inl (cL, 16384, .inr (.inl (aL u_65))))]) (wr := [(hx_, .inr (4, [.ref hp, .ref hst, .ref hd, .ref hfa]))]) (va_runV (As := [.int (iZ row), .int (iZ lf), .int (iZ rt), .int (iZ (x + ((bw - i) / 2))), .int (iZ (x + ((bw - 1 + i) / 2)))]) (rest := []) ⟨hx, hb, hml, hown, hts⟩ (c_Paper_drawRing l dC dI hp hw hs hk cL w h mn G pic row lf rt (x + ((bw - i) / 2)) (x + ((bw - 1 + i) / 2)) H.size (by first | omega | assumption) (by first | omega | assumption) (by first | omega | assumption) (by first | omega | assumption) (by first | omega | assumption) (by first | omega | assumption) (by first | omega | assumption) (by first | omega | assumption) (by first | omega | assumption) (by first | omega | assumption) (by first | omega | assumption) (by first | omega | assumption) (by first | omega | assumption) (by first | omega | assumption) (by first | omega | assumption) (by first | omega | assumption) (by first | omega | assumption) (by first | omega | assumption)) (cwV 5 hts (gV t_274 t_275 t_276 t_2 t_277) rfl rfl rfl (by decide +kernel) ⟨Nat.le_of_ble_eq_true rfl, Nat.le_of_ble_eq_true rfl⟩) ⟨zPm_blind, va_recv hK hP (ci := 2) (q0 := 1) rfl rfl, zPm_pre hP hD hK [1, 2] [0] rfl rfl rfl rfl⟩ rfl rfl hl.1 rfl (lv_room (Nat.le_of_ble_eq_true rfl)) d_D_drawEllipseRow_65 ⟨Nat.le_of_ble_eq_true rfl, Nat.le_of_ble_eq_true rfl⟩) hP hD hS hA [1, 2] [0] rfl rfl rfl (by decide) (fun r_65 u_65 H locs q_65 hP hD hS => ?_)
    have hP : va_P (dC, dI) vwCl [(hx_, .inr (4, [.ref hp, .ref hst, .ref hd, .ref hfa])), (hp, .inr (2, [.int (iZ w), .int (iZ h), .int (iZ mn), .ref hw, .ref hs, .ref hk])), (hw, .inl (cL, 16384, .inr (.inl (aL u_65))))] H := hP
    have hD : va_D A [(hx_, .inr (4, [.ref hp, .ref hst, .ref hd, .ref hfa])), (hp, .inr (2, [.int (iZ w), .int (iZ h), .int (iZ mn), .ref hw, .ref hs, .ref hk])), (hw, .inl (cL, 16384, .inr (.inl (aL u_65))))] := hD
    obtain ⟨rfl, q_65⟩ := q_65
    exact W.iret hx hb hr (fun t ht hW => ⟨⟨_, u_65, rfl, ⟨congrArg iZ (by rw [e_lf, e_rt]; exact cnt_ext (fun px py _ _ _ _ => el_2 (by omega) i2 px py)), by rw [show (fun x9 y9 => onB w h x9 y9 && elR row x bw o i x9 y9) = (fun x9 y9 => onB w h x9 y9 && rgB row lf rt (x + (bw - i) / 2) (x + (bw - 1 + i) / 2) x9 y9) from funext (fun px => funext (fun py => by rw [e_lf, e_rt, el_2 (by omega) i2 px py]))]; exact q_65⟩, by rw [ht]; exact hP, va_K.moved hW.alike hK, hD⟩, hS.F ht⟩) hS.2.2 d_D_drawEllipseRow_68
  · refine lv_aload_n hx hb d_D_drawEllipseRow_26 rfl (lv_at hl 2 rfl) ?_
    refine va_get (D := (dC, dI)) (ci := 4) (v := .ref hp) (C := R_D) (T := T_D) (N := 4) hx hb hts wi_D hown hK hP 0 rfl rfl 0 (by decide) (hts _ t_126) (fun _ h9 => h9) rfl d_D_drawEllipseRow_27 ?_
    refine lv_iload hx hb d_D_drawEllipseRow_30 (lv_at hl 1 rfl) ?_
    refine lv_iload_n hx hb d_D_drawEllipseRow_32 rfl (lv_at hl 3 rfl) ?_
    refine lv_iload hx hb d_D_drawEllipseRow_33 (lv_at hl 0 rfl) ?_
    refine lv_iload_n hx hb d_D_drawEllipseRow_35 rfl (lv_at hl 3 rfl) ?_
    refine zc_i (w1 := fun (u_36 : Int → Int64) => [(hp, .inr (2, [.int (iZ w), .int (iZ h), .int (iZ mn), .ref hw, .ref hs, .ref hk])), (hw, .inl (cL, 16384, .inr (.inl (aL u_36))))]) (wr := [(hx_, .inr (4, [.ref hp, .ref hst, .ref hd, .ref hfa]))]) (va_runV (As := [.int (iZ lf), .int (iZ row), .int (iZ rt), .int (iZ row)]) (rest := []) ⟨hx, hb, hml, hown, hts⟩ (c_Paper_drawBox l dC dI hp hw hs hk cL w h mn G pic lf row rt row H.size (by first | omega | assumption) (by first | omega | assumption) (by first | omega | assumption) (by first | omega | assumption) (by first | omega | assumption) (by first | omega | assumption) (by first | omega | assumption) (by first | omega | assumption) (by first | omega | assumption) (by first | omega | assumption) (by first | omega | assumption) (by first | omega | assumption) (by first | omega | assumption) (by first | omega | assumption) (by first | omega | assumption)) (cwV 4 hts (gV t_292 t_279 t_280 t_2 t_281) rfl rfl rfl (by decide +kernel) ⟨Nat.le_of_ble_eq_true rfl, Nat.le_of_ble_eq_true rfl⟩) ⟨zPm_blind, va_recv hK hP (ci := 2) (q0 := 1) rfl rfl, zPm_pre hP hD hK [1, 2] [0] rfl rfl rfl rfl⟩ rfl rfl hl.1 rfl (lv_room (Nat.le_of_ble_eq_true rfl)) d_D_drawEllipseRow_36 ⟨Nat.le_of_ble_eq_true rfl, Nat.le_of_ble_eq_true rfl⟩) hP hD hS hA [1, 2] [0] rfl rfl rfl (by decide) (fun r_36 u_36 H locs q_36 hP hD hS => ?_)
    have hP : va_P (dC, dI) vwCl [(hx_, .inr (4, [.ref hp, .ref hst, .ref hd, .ref hfa])), (hp, .inr (2, [.int (iZ w), .int (iZ h), .int (iZ mn), .ref hw, .ref hs, .ref hk])), (hw, .inl (cL, 16384, .inr (.inl (aL u_36))))] H := hP
    have hD : va_D A [(hx_, .inr (4, [.ref hp, .ref hst, .ref hd, .ref hfa])), (hp, .inr (2, [.int (iZ w), .int (iZ h), .int (iZ mn), .ref hw, .ref hs, .ref hk])), (hw, .inl (cL, 16384, .inr (.inl (aL u_36))))] := hD
    obtain ⟨rfl, q_36⟩ := q_36
    exact W.iret hx hb hr (fun t ht hW => ⟨⟨_, u_36, rfl, ⟨congrArg iZ (by rw [boxN_cnt w1 h1, e_lf, e_rt, c_23]; exact cnt_ext (fun px py _ _ _ _ => el_1 o1 px py)), by rw [c_23, show (fun x9 y9 => onB w h x9 y9 && elR row x bw o (-1) x9 y9) = (fun x9 y9 => onB w h x9 y9 && bxB lf row rt row x9 y9) from funext (fun px => funext (fun py => by rw [e_lf, e_rt, el_1 o1 px py]))]; exact q_36⟩, by rw [ht]; exact hP, va_K.moved hW.alike hK, hD⟩, hS.F ht⟩) hS.2.2 d_D_drawEllipseRow_39
theorem d_D_ellipse_0 : decode c_yD_ellipse 0 = .ok (.iload_n 1, 1) := by decide +kernel
theorem d_D_ellipse_1 : decode c_yD_ellipse 1 = .ok (.iload_n 2, 1) := by decide +kernel
theorem d_D_ellipse_2 : decode c_yD_ellipse 2 = .ok (.iload_n 3, 1) := by decide +kernel
theorem d_D_ellipse_3 : decode c_yD_ellipse 3 = .ok (.iload 4, 2) := by decide +kernel
theorem d_D_ellipse_5 : decode c_yD_ellipse 5 = .ok (.invokestatic 62, 3) := by decide +kernel
theorem d_D_ellipse_8 : decode c_yD_ellipse 8 = .ok (.iload 5, 2) := by decide +kernel
theorem d_D_ellipse_10 : decode c_yD_ellipse 10 = .ok (.invokestatic 66, 3) := by decide +kernel
theorem d_D_ellipse_13 : decode c_yD_ellipse 13 = .ok (.invokestatic 43, 3) := by decide +kernel
theorem d_D_ellipse_16 : decode c_yD_ellipse 16 = .ok (.iload_n 2, 1) := by decide +kernel
theorem d_D_ellipse_17 : decode c_yD_ellipse 17 = .ok (.iload 4, 2) := by decide +kernel
theorem d_D_ellipse_19 : decode c_yD_ellipse 19 = .ok (.iadd, 1) := by decide +kernel
theorem d_D_ellipse_20 : decode c_yD_ellipse 20 = .ok (.iconst 1, 1) := by decide +kernel
theorem d_D_ellipse_21 : decode c_yD_ellipse 21 = .ok (.isub, 1) := by decide +kernel
theorem d_D_ellipse_22 : decode c_yD_ellipse 22 = .ok (.aload_n 0, 1) := by decide +kernel
theorem d_D_ellipse_23 : decode c_yD_ellipse 23 = .ok (.getfield 10, 3) := by decide +kernel
theorem d_D_ellipse_26 : decode c_yD_ellipse 26 = .ok (.getfield 76, 3) := by decide +kernel
theorem d_D_ellipse_29 : decode c_yD_ellipse 29 = .ok (.iconst 1, 1) := by decide +kernel
theorem d_D_ellipse_30 : decode c_yD_ellipse 30 = .ok (.isub, 1) := by decide +kernel
theorem d_D_ellipse_31 : decode c_yD_ellipse 31 = .ok (.invokestatic 79, 3) := by decide +kernel
theorem d_D_ellipse_34 : decode c_yD_ellipse 34 = .ok (.istore 6, 2) := by decide +kernel
theorem d_D_ellipse_36 : decode c_yD_ellipse 36 = .ok (.iconst 0, 1) := by decide +kernel
theorem d_D_ellipse_37 : decode c_yD_ellipse 37 = .ok (.istore 7, 2) := by decide +kernel
theorem d_D_ellipse_39 : decode c_yD_ellipse 39 = .ok (.iload_n 2, 1) := by decide +kernel
theorem d_D_ellipse_40 : decode c_yD_ellipse 40 = .ok (.iconst 0, 1) := by decide +kernel
theorem d_D_ellipse_41 : decode c_yD_ellipse 41 = .ok (.invokestatic 70, 3) := by decide +kernel
theorem d_D_ellipse_44 : decode c_yD_ellipse 44 = .ok (.istore 8, 2) := by decide +kernel
theorem d_D_ellipse_46 : decode c_yD_ellipse 46 = .ok (.iload 8, 2) := by decide +kernel
theorem d_D_ellipse_48 : decode c_yD_ellipse 48 = .ok (.iload 6, 2) := by decide +kernel
theorem d_D_ellipse_50 : decode c_yD_ellipse 50 = .ok (.if_icmp .gt 75, 3) := by decide +kernel
theorem d_D_ellipse_53 : decode c_yD_ellipse 53 = .ok (.iconst 2, 1) := by decide +kernel
theorem d_D_ellipse_54 : decode c_yD_ellipse 54 = .ok (.iload 8, 2) := by decide +kernel
theorem d_D_ellipse_56 : decode c_yD_ellipse 56 = .ok (.iload_n 2, 1) := by decide +kernel
theorem d_D_ellipse_57 : decode c_yD_ellipse 57 = .ok (.isub, 1) := by decide +kernel
theorem d_D_ellipse_58 : decode c_yD_ellipse 58 = .ok (.imul, 1) := by decide +kernel
theorem d_D_ellipse_59 : decode c_yD_ellipse 59 = .ok (.iload 4, 2) := by decide +kernel
theorem d_D_ellipse_61 : decode c_yD_ellipse 61 = .ok (.iconst 1, 1) := by decide +kernel
theorem d_D_ellipse_62 : decode c_yD_ellipse 62 = .ok (.isub, 1) := by decide +kernel
theorem d_D_ellipse_63 : decode c_yD_ellipse 63 = .ok (.isub, 1) := by decide +kernel
theorem d_D_ellipse_64 : decode c_yD_ellipse 64 = .ok (.istore 9, 2) := by decide +kernel
theorem d_D_ellipse_66 : decode c_yD_ellipse 66 = .ok (.iload_n 3, 1) := by decide +kernel
theorem d_D_ellipse_67 : decode c_yD_ellipse 67 = .ok (.iload 4, 2) := by decide +kernel
theorem d_D_ellipse_69 : decode c_yD_ellipse 69 = .ok (.iload 9, 2) := by decide +kernel
theorem d_D_ellipse_71 : decode c_yD_ellipse 71 = .ok (.invokestatic 108, 3) := by decide +kernel
theorem d_D_ellipse_74 : decode c_yD_ellipse 74 = .ok (.istore 10, 2) := by decide +kernel
theorem d_D_ellipse_76 : decode c_yD_ellipse 76 = .ok (.iload_n 3, 1) := by decide +kernel
theorem d_D_ellipse_77 : decode c_yD_ellipse 77 = .ok (.iconst 2, 1) := by decide +kernel
theorem d_D_ellipse_78 : decode c_yD_ellipse 78 = .ok (.iload 5, 2) := by decide +kernel
theorem d_D_ellipse_80 : decode c_yD_ellipse 80 = .ok (.imul, 1) := by decide +kernel
theorem d_D_ellipse_81 : decode c_yD_ellipse 81 = .ok (.isub, 1) := by decide +kernel
theorem d_D_ellipse_82 : decode c_yD_ellipse 82 = .ok (.iload 4, 2) := by decide +kernel
theorem d_D_ellipse_84 : decode c_yD_ellipse 84 = .ok (.iconst 2, 1) := by decide +kernel
theorem d_D_ellipse_85 : decode c_yD_ellipse 85 = .ok (.iload 5, 2) := by decide +kernel
theorem d_D_ellipse_87 : decode c_yD_ellipse 87 = .ok (.imul, 1) := by decide +kernel
theorem d_D_ellipse_88 : decode c_yD_ellipse 88 = .ok (.isub, 1) := by decide +kernel
theorem d_D_ellipse_89 : decode c_yD_ellipse 89 = .ok (.iload 9, 2) := by decide +kernel
theorem d_D_ellipse_91 : decode c_yD_ellipse 91 = .ok (.invokestatic 108, 3) := by decide +kernel
theorem d_D_ellipse_94 : decode c_yD_ellipse 94 = .ok (.istore 11, 2) := by decide +kernel
theorem d_D_ellipse_96 : decode c_yD_ellipse 96 = .ok (.iload 10, 2) := by decide +kernel
theorem d_D_ellipse_98 : decode c_yD_ellipse 98 = .ok (.iconst (-1), 1) := by decide +kernel
theorem d_D_ellipse_99 : decode c_yD_ellipse 99 = .ok (.if_icmp .eq 20, 3) := by decide +kernel
theorem d_D_ellipse_102 : decode c_yD_ellipse 102 = .ok (.iload 7, 2) := by decide +kernel
theorem d_D_ellipse_104 : decode c_yD_ellipse 104 = .ok (.aload_n 0, 1) := by decide +kernel
theorem d_D_ellipse_105 : decode c_yD_ellipse 105 = .ok (.iload 8, 2) := by decide +kernel
theorem d_D_ellipse_107 : decode c_yD_ellipse 107 = .ok (.iload_n 1, 1) := by decide +kernel
theorem d_D_ellipse_108 : decode c_yD_ellipse 108 = .ok (.iload_n 3, 1) := by decide +kernel
theorem d_D_ellipse_109 : decode c_yD_ellipse 109 = .ok (.iload 10, 2) := by decide +kernel
theorem d_D_ellipse_111 : decode c_yD_ellipse 111 = .ok (.iload 11, 2) := by decide +kernel
theorem d_D_ellipse_113 : decode c_yD_ellipse 113 = .ok (.invokevirtual 114, 3) := by decide +kernel
theorem d_D_ellipse_116 : decode c_yD_ellipse 116 = .ok (.iadd, 1) := by decide +kernel
theorem d_D_ellipse_117 : decode c_yD_ellipse 117 = .ok (.istore 7, 2) := by decide +kernel
theorem d_D_ellipse_119 : decode c_yD_ellipse 119 = .ok (.iinc 8 1, 3) := by decide +kernel
theorem d_D_ellipse_122 : decode c_yD_ellipse 122 = .ok (.goto (-76), 3) := by decide +kernel
theorem d_D_ellipse_125 : decode c_yD_ellipse 125 = .ok (.iload 7, 2) := by decide +kernel
theorem d_D_ellipse_127 : decode c_yD_ellipse 127 = .ok (.ireturn, 1) := by decide +kernel
set_option maxHeartbeats 4000000 in
set_option maxRecDepth 100000 in
theorem c_DotSheet_ellipse (l : Launch) (hnt : l.stackTraces = false) (dC : Nat → ClassId) (dI : Nat → Nat → Nat) (sa : Nat → Nat) (hx_ hst hd hfa hp hw hs hk : Nat) (cL : ClassId) (w h mn : Int) (G : Int → Int64) (pic : Int → Int → Bool) (x y bw bh t : Int) (sz : Nat) (w1 : 1 ≤ w) (w2 : w ≤ 1024) (h1 : 1 ≤ h) (h2 : h ≤ 1024) (mn1 : 0 ≤ mn) (mn2 : mn ≤ 2) (hR : Rep G pic) (x1 : -2147483648 ≤ x) (y1 : -2147483648 ≤ y) (bw1 : -2147483648 ≤ bw) (bh1 : -2147483648 ≤ bh) (t1 : -2147483648 ≤ t) (x2 : x ≤ 2147483647) (y2 : y ≤ 2147483647) (bw2 : bw ≤ 2147483647) (bh2 : bh ≤ 2147483647) (t2 : t ≤ 2147483647) : vx_Met l y_D_ellipse w_D_ellipse ({ frames := 8, cells := 2, slots := 12, locals := 143 }) (va_Pc [.ref hx_, .int (iZ x), .int (iZ y), .int (iZ bw), .int (iZ bh), .int (iZ t)] (zPx (dC, dI) vwCl [(hx_, .inr (4, [.ref hp, .ref hst, .ref hd, .ref hfa])), (hp, .inr (2, [.int (iZ w), .int (iZ h), .int (iZ mn), .ref hw, .ref hs, .ref hk])), (hw, .inl (cL, 16384, .inr (.inl (aL G))))] [(cL, .long)] sz sa)) (va_Qi (fun (r : Int32) (u : Int → Int64) => r = iZ (cnt w h (elD x y bw bh t)) ∧ (-4096 ≤ x ∧ x ≤ 4096 ∧ -4096 ≤ y ∧ y ≤ 4096 ∧ 1 ≤ bw ∧ bw ≤ 2048 ∧ 1 ≤ bh ∧ bh ≤ 2048 ∧ 1 ≤ t ∧ t ≤ 200) ∧ Rep u (drw mn (fun px py => onB w h px py && elD x y bw bh t px py) pic)) (fun u => zB (dC, dI) vwCl [(cL, .long)] (va_A [(hx_, .inr (4, [.ref hp, .ref hst, .ref hd, .ref hfa])), (hp, .inr (2, [.int (iZ w), .int (iZ h), .int (iZ mn), .ref hw, .ref hs, .ref hk])), (hw, .inl (cL, 16384, .inr (.inl (aL G))))] sz) [(hx_, .inr (4, [.ref hp, .ref hst, .ref hd, .ref hfa])), (hp, .inr (2, [.int (iZ w), .int (iZ h), .int (iZ mn), .ref hw, .ref hs, .ref hk])), (hw, .inl (cL, 16384, .inr (.inl (aL u))))]) (va_A [(hx_, .inr (4, [.ref hp, .ref hst, .ref hd, .ref hfa])), (hp, .inr (2, [.int (iZ w), .int (iZ h), .int (iZ mn), .ref hw, .ref hs, .ref hk])), (hw, .inl (cL, 16384, .inr (.inl (aL G))))] sz)) (zX (fun E => E = "java/lang/IllegalArgumentException" ∧ ¬ (-4096 ≤ x ∧ x ≤ 4096 ∧ -4096 ≤ y ∧ y ≤ 4096 ∧ 1 ≤ bw ∧ bw ≤ 2048 ∧ 1 ≤ bh ∧ bh ≤ 2048 ∧ 1 ≤ t ∧ t ≤ 200)) (dC, dI) vwCl [(cL, .long)] (va_A [(hx_, .inr (4, [.ref hp, .ref hst, .ref hd, .ref hfa])), (hp, .inr (2, [.int (iZ w), .int (iZ h), .int (iZ mn), .ref hw, .ref hs, .ref hk])), (hw, .inl (cL, 16384, .inr (.inl (aL G))))] sz) [(hx_, .inr (4, [.ref hp, .ref hst, .ref hd, .ref hfa])), (hp, .inr (2, [.int (iZ w), .int (iZ h), .int (iZ mn), .ref hw, .ref hs, .ref hk])), (hw, .inl (cL, 16384, .inr (.inl (aL G))))]) 2 12 (va_A [(hx_, .inr (4, [.ref hp, .ref hst, .ref hd, .ref hfa])), (hp, .inr (2, [.int (iZ w), .int (iZ h), .int (iZ mn), .ref hw, .ref hs, .ref hk])), (hw, .inl (cL, 16384, .inr (.inl (aL G))))] sz) := by
  refine vx_ofW (cc := c_yD_ellipse) (maxL := 12) (ret := (some .int)) (by decide) rfl ?_
  intro p e s m args below meth c s₁ B hml noEx hv
  obtain ⟨rfl, hsz, hP, hK, hD0, hXK⟩ := hv
  have hx := B.exec
  have hb := B.bytes
  have hr := B.returns
  have hts0 := atoms_spec (ws := w_D_ellipse) B.pre
  have hts : ∀ w ∈ gT, w.before _ s = true := fun w h => hts0 w (List.mem_cons_of_mem _ h)
  have hown : s.vm.findClass R_D = some m.cls := findClass_of_methodNamed B.named
  have hlocks := B.notSynchronized
  subst hsz
  have hD := hD0.self (sz := s.heap.size)
  generalize hAe : va_A [(hx_, .inr (4, [.ref hp, .ref hst, .ref hd, .ref hfa])), (hp, .inr (2, [.int (iZ w), .int (iZ h), .int (iZ mn), .ref hw, .ref hs, .ref hk])), (hw, .inl (cL, 16384, .inr (.inl (aL G))))] s.heap.size = A at hD hXK ⊢
  have hA : ∀ q : Nat, s.heap.size ≤ q → A q := fun q h => by rw [← hAe]; exact Or.inr h
  obtain ⟨H, hH⟩ : ∃ H, s.heap = H := ⟨_, rfl⟩
  have hS : va_S A s.heap H [] := by rw [← hH]; exact va_S.rf
  rw [hH] at hP
  rw [hH]
  have hl := lv_entry ([.ref hx_, .int (iZ x), .int (iZ y), .int (iZ bw), .int (iZ bh), .int (iZ t)]) (n := 12) (Nat.le_of_ble_eq_true rfl)
  rw [lg_entry_eq]
  generalize (lg_sl ([.ref hx_, .int (iZ x), .int (iZ y), .int (iZ bw), .int (iZ bh), .int (iZ t)]) ++ List.replicate (12 - (lg_sl ([.ref hx_, .int (iZ x), .int (iZ y), .int (iZ bw), .int (iZ bh), .int (iZ t)])).length) Slot.unset).toArray = ls at hl ⊢
  have hl : lv_has ls 12 [(0, .ref hx_), (1, .int (iZ x)), (2, .int (iZ y)), (3, .int (iZ bw)), (4, .int (iZ bh)), (5, .int (iZ t))] := hl
  refine lv_iload_n hx hb d_D_ellipse_0 rfl (lv_at hl 1 rfl) ?_
  refine lv_iload_n hx hb d_D_ellipse_1 rfl (lv_at hl 2 rfl) ?_
  refine lv_iload_n hx hb d_D_ellipse_2 rfl (lv_at hl 3 rfl) ?_
  refine lv_iload hx hb d_D_ellipse_3 (lv_at hl 4 rfl) ?_
  refine zx_v (w1 := fun (u_5 : Unit) => []) (wr := [(hx_, .inr (4, [.ref hp, .ref hst, .ref hd, .ref hfa])), (hp, .inr (2, [.int (iZ w), .int (iZ h), .int (iZ mn), .ref hw, .ref hs, .ref hk])), (hw, .inl (cL, 16384, .inr (.inl (aL G))))]) (vx_runS (As := [.int (iZ x), .int (iZ y), .int (iZ bw), .int (iZ bh)]) (rest := []) ⟨hx, hb, hml, hown, hts⟩ (c_DotSheet_demandBox l hnt dC dI sa x y bw bh H.size (by first | omega | assumption) (by first | omega | assumption) (by first | omega | assumption) (by first | omega | assumption) (by first | omega | assumption) (by first | omega | assumption) (by first | omega | assumption) (by first | omega | assumption)) (va_cwS 4 hts (gS t_256 t_257 t_1 t_258) rfl rfl rfl (by decide +kernel) ⟨Nat.le_of_ble_eq_true rfl, Nat.le_of_ble_eq_true rfl⟩) ⟨zPx_blind, zPx_pre hP hD hK hXK hS hA [] [] rfl rfl rfl rfl⟩ rfl rfl hl.1 rfl (lv_room (Nat.le_of_ble_eq_true rfl)) d_D_ellipse_5 ⟨Nat.le_of_ble_eq_true rfl, Nat.le_of_ble_eq_true rfl⟩) hP hD hS hA [] [0, 1, 2] rfl rfl rfl (by decide) (fun E_ ce_ q9_ H locs x_5 hP hD hS hce hcv hcl => ?_) (fun u_5 H locs q_5 hP hD hS => ?_)
  · have hP : va_P (dC, dI) vwCl [(hx_, .inr (4, [.ref hp, .ref hst, .ref hd, .ref hfa])), (hp, .inr (2, [.int (iZ w), .int (iZ h), .int (iZ mn), .ref hw, .ref hs, .ref hk])), (hw, .inl (cL, 16384, .inr (.inl (aL G))))] H := hP
    have hD : va_D A [(hx_, .inr (4, [.ref hp, .ref hst, .ref hd, .ref hfa])), (hp, .inr (2, [.int (iZ w), .int (iZ h), .int (iZ mn), .ref hw, .ref hs, .ref hk])), (hw, .inl (cL, 16384, .inr (.inl (aL G))))] := hD
    exact vx_out (fun x9 h9 => (noEx x9 h9).elim) hlocks hce hcv hcl (fun t ht ha => ⟨(), trivial, ⟨⟨x_5.1, by have z9 := x_5.2; omega⟩, by rw [ht]; exact hP, va_K.moved ha hK, hD⟩, hS.F ht⟩) hS.2.2 (Nat.le_of_ble_eq_true rfl) (Nat.le_of_ble_eq_true rfl)
  have hP : va_P (dC, dI) vwCl [(hx_, .inr (4, [.ref hp, .ref hst, .ref hd, .ref hfa])), (hp, .inr (2, [.int (iZ w), .int (iZ h), .int (iZ mn), .ref hw, .ref hs, .ref hk])), (hw, .inl (cL, 16384, .inr (.inl (aL G))))] H := hP
  have hD : va_D A [(hx_, .inr (4, [.ref hp, .ref hst, .ref hd, .ref hfa])), (hp, .inr (2, [.int (iZ w), .int (iZ h), .int (iZ mn), .ref hw, .ref hs, .ref hk])), (hw, .inl (cL, 16384, .inr (.inl (aL G))))] := hD
  refine lv_iload hx hb d_D_ellipse_8 (lv_at hl 5 rfl) ?_
  refine vp_callSi (va_runS (As := [.int (iZ t)]) (rest := []) ⟨hx, hb, hml, hown, hts⟩ (c_DotSheet_isThickness l dC dI t (by first | omega | assumption) (by first | omega | assumption)) (va_cwS 1 hts (gS t_265 t_266 t_1 t_267) rfl rfl rfl (by decide +kernel) ⟨Nat.le_of_ble_eq_true rfl, Nat.le_of_ble_eq_true rfl⟩) ⟨zPr_blind, zPr_pre hP hK [] [] rfl rfl⟩ rfl rfl hl.1 rfl (lv_room (Nat.le_of_ble_eq_true rfl)) d_D_ellipse_10 ⟨Nat.le_of_ble_eq_true rfl, Nat.le_of_ble_eq_true rfl⟩).run (fun r_10 q_10 => ?_)
  obtain rfl := q_10
  refine zx_v (w1 := fun (u_13 : Unit) => []) (wr := [(hx_, .inr (4, [.ref hp, .ref hst, .ref hd, .ref hfa])), (hp, .inr (2, [.int (iZ w), .int (iZ h), .int (iZ mn), .ref hw, .ref hs, .ref hk])), (hw, .inl (cL, 16384, .inr (.inl (aL G))))]) (vx_runS (As := [.int (bI (decide (1 ≤ t ∧ t ≤ 200)))]) (rest := []) ⟨hx, hb, hml, hown, hts⟩ (c_DotSheet_demand l hnt dC dI sa (decide (1 ≤ t ∧ t ≤ 200)) H.size ) (va_cwS 1 hts (gS t_154 t_155 t_1 t_156) rfl rfl rfl (by decide +kernel) ⟨Nat.le_of_ble_eq_true rfl, Nat.le_of_ble_eq_true rfl⟩) ⟨zPx_blind, zPx_pre hP hD hK hXK hS hA [] [] rfl rfl rfl rfl⟩ rfl rfl hl.1 rfl (lv_room (Nat.le_of_ble_eq_true rfl)) d_D_ellipse_13 ⟨Nat.le_of_ble_eq_true rfl, Nat.le_of_ble_eq_true rfl⟩) hP hD hS hA [] [0, 1, 2] rfl rfl rfl (by decide) (fun E_ ce_ q9_ H locs x_13 hP hD hS hce hcv hcl => ?_) (fun u_13 H locs q_13 hP hD hS => ?_)
  · have hP : va_P (dC, dI) vwCl [(hx_, .inr (4, [.ref hp, .ref hst, .ref hd, .ref hfa])), (hp, .inr (2, [.int (iZ w), .int (iZ h), .int (iZ mn), .ref hw, .ref hs, .ref hk])), (hw, .inl (cL, 16384, .inr (.inl (aL G))))] H := hP
    have hD : va_D A [(hx_, .inr (4, [.ref hp, .ref hst, .ref hd, .ref hfa])), (hp, .inr (2, [.int (iZ w), .int (iZ h), .int (iZ mn), .ref hw, .ref hs, .ref hk])), (hw, .inl (cL, 16384, .inr (.inl (aL G))))] := hD
    exact vx_out (fun x9 h9 => (noEx x9 h9).elim) hlocks hce hcv hcl (fun t ht ha => ⟨(), trivial, ⟨⟨x_13.1, by have z9 := of_decide_eq_false x_13.2; omega⟩, by rw [ht]; exact hP, va_K.moved ha hK, hD⟩, hS.F ht⟩) hS.2.2 (Nat.le_of_ble_eq_true rfl) (Nat.le_of_ble_eq_true rfl)
  have hP : va_P (dC, dI) vwCl [(hx_, .inr (4, [.ref hp, .ref hst, .ref hd, .ref hfa])), (hp, .inr (2, [.int (iZ w), .int (iZ h), .int (iZ mn), .ref hw, .ref hs, .ref hk])), (hw, .inl (cL, 16384, .inr (.inl (aL G))))] H := hP
  have hD : va_D A [(hx_, .inr (4, [.ref hp, .ref hst, .ref hd, .ref hfa])), (hp, .inr (2, [.int (iZ w), .int (iZ h), .int (iZ mn), .ref hw, .ref hs, .ref hk])), (hw, .inl (cL, 16384, .inr (.inl (aL G))))] := hD
  have q_13 := of_decide_eq_true q_13
  refine lv_iload_n hx hb d_D_ellipse_16 rfl (lv_at hl 2 rfl) ?_
  refine lv_iload hx hb d_D_ellipse_17 (lv_at hl 4 rfl) ?_
  refine zi_add hx hb d_D_ellipse_19 ?_
  refine lv_iconst (v := iZ (1)) hx hb d_D_ellipse_20 rfl ?_
  refine zi_sub hx hb d_D_ellipse_21 ?_
  refine lv_aload_n hx hb d_D_ellipse_22 rfl (lv_at hl 0 rfl) ?_
  refine va_get (D := (dC, dI)) (ci := 4) (v := .ref hp) (C := R_D) (T := T_D) (N := 4) hx hb hts wi_D hown hK hP 0 rfl rfl 0 (by decide) (hts _ t_126) (fun _ h9 => h9) rfl d_D_ellipse_23 ?_
  refine va_get (D := (dC, dI)) (ci := 2) (v := .int (iZ h)) (C := R_Pa) (T := T_Pa) (N := 6) hx hb hts wi_Pa hown hK hP 1 rfl rfl 1 (by decide) (hts _ t_36) (fun _ h9 => h9) rfl d_D_ellipse_26 ?_
  refine lv_iconst (v := iZ (1)) hx hb d_D_ellipse_29 rfl ?_
  refine zi_sub hx hb d_D_ellipse_30 ?_
  refine vp_callSi (va_runS (As := [.int (iZ ((y + bh) - 1)), .int (iZ (h - 1))]) (rest := []) ⟨hx, hb, hml, hown, hts⟩ (c_Math_mini l dC dI ((y + bh) - 1) (h - 1) (by first | omega | assumption) (by first | omega | assumption) (by first | omega | assumption) (by first | omega | assumption)) (va_cwS 2 hts (gS t_271 t_272 t_12 t_273) rfl rfl rfl (by decide +kernel) ⟨Nat.le_of_ble_eq_true rfl, Nat.le_of_ble_eq_true rfl⟩) ⟨zPr_blind, zPr_pre hP hK [] [] rfl rfl⟩ rfl rfl hl.1 rfl (lv_room (Nat.le_of_ble_eq_true rfl)) d_D_ellipse_31 ⟨Nat.le_of_ble_eq_true rfl, Nat.le_of_ble_eq_true rfl⟩).run (fun r_31 q_31 => ?_)
  obtain rfl := q_31
  refine zn_z (fun bt e_bt => ?_)
  refine lv_istore (lv' := [(6, .int (iZ bt)), (0, .ref hx_), (1, .int (iZ x)), (2, .int (iZ y)), (3, .int (iZ bw)), (4, .int (iZ bh)), (5, .int (iZ t))]) hx hb d_D_ellipse_34 hl (by decide) rfl (fun ls hl => ?_)
  refine lv_iconst (v := iZ (0)) hx hb d_D_ellipse_36 rfl ?_
  refine lv_istore (lv' := [(7, .int (iZ 0)), (6, .int (iZ bt)), (0, .ref hx_), (1, .int (iZ x)), (2, .int (iZ y)), (3, .int (iZ bw)), (4, .int (iZ bh)), (5, .int (iZ t))]) hx hb d_D_ellipse_37 hl (by decide) rfl (fun ls hl => ?_)
  refine lv_iload_n hx hb d_D_ellipse_39 rfl (lv_at hl 4 rfl) ?_
  refine lv_iconst (v := iZ (0)) hx hb d_D_ellipse_40 rfl ?_
  refine vp_callSi (va_runS (As := [.int (iZ y), .int (iZ 0)]) (rest := []) ⟨hx, hb, hml, hown, hts⟩ (c_Math_maxi l dC dI y 0 (by first | omega | assumption) (by first | omega | assumption) (by first | omega | assumption) (by first | omega | assumption)) (va_cwS 2 hts (gS t_268 t_269 t_12 t_270) rfl rfl rfl (by decide +kernel) ⟨Nat.le_of_ble_eq_true rfl, Nat.le_of_ble_eq_true rfl⟩) ⟨zPr_blind, zPr_pre hP hK [] [] rfl rfl⟩ rfl rfl hl.1 rfl (lv_room (Nat.le_of_ble_eq_true rfl)) d_D_ellipse_41 ⟨Nat.le_of_ble_eq_true rfl, Nat.le_of_ble_eq_true rfl⟩).run (fun r_41 q_41 => ?_)
  obtain rfl := q_41
  refine zn_z (fun v8_44 e_v8_44 => ?_)
  refine lv_istore (lv' := [(8, .int (iZ v8_44)), (7, .int (iZ 0)), (6, .int (iZ bt)), (0, .ref hx_), (1, .int (iZ x)), (2, .int (iZ y)), (3, .int (iZ bw)), (4, .int (iZ bh)), (5, .int (iZ t))]) hx hb d_D_ellipse_44 hl (by decide) rfl (fun ls hl => ?_)
  have LP_46 : ∀ (n_46 : Nat) (row : Int) (dn : Int) (K : Int → Int64), (0 ≤ row ∧ y ≤ row) → (row ≤ h ∨ row ≤ y) → (row ≤ 4096) → (rwI w h mn (elD x y bw bh t) pic K row dn) → (16384 - row).toNat < n_46 → ∀ (H : Heap) (locs : List Loc), va_P (dC, dI) vwCl [(hx_, .inr (4, [.ref hp, .ref hst, .ref hd, .ref hfa])), (hp, .inr (2, [.int (iZ w), .int (iZ h), .int (iZ mn), .ref hw, .ref hs, .ref hk])), (hw, .inl (cL, 16384, .inr (.inl (aL K))))] H → va_D A [(hx_, .inr (4, [.ref hp, .ref hst, .ref hd, .ref hfa])), (hp, .inr (2, [.int (iZ w), .int (iZ h), .int (iZ mn), .ref hw, .ref hs, .ref hk])), (hw, .inl (cL, 16384, .inr (.inl (aL K))))] → va_S A s.heap H locs → ∀ (ls : Array Slot), lv_has ls 12 [(0, .ref hx_), (1, .int (iZ x)), (2, .int (iZ y)), (3, .int (iZ bw)), (4, .int (iZ bh)), (5, .int (iZ t)), (6, .int (iZ bt)), (7, .int (iZ dn)), (8, .int (iZ row))] → W p l e ({ frames := 8, cells := 2, slots := 12, locals := 143 } : Room) s m ([.ref hx_, .int (iZ x), .int (iZ y), .int (iZ bw), .int (iZ bh), .int (iZ t)] : List Value).toArray below meth c H locs 2 12 (vx_MQ below (va_Qi (fun (r : Int32) (u : Int → Int64) => r = iZ (cnt w h (elD x y bw bh t)) ∧ (-4096 ≤ x ∧ x ≤ 4096 ∧ -4096 ≤ y ∧ y ≤ 4096 ∧ 1 ≤ bw ∧ bw ≤ 2048 ∧ 1 ≤ bh ∧ bh ≤ 2048 ∧ 1 ≤ t ∧ t ≤ 200) ∧ Rep u (drw mn (fun px py => onB w h px py && elD x y bw bh t px py) pic)) (fun u => zB (dC, dI) vwCl [(cL, .long)] A [(hx_, .inr (4, [.ref hp, .ref hst, .ref hd, .ref hfa])), (hp, .inr (2, [.int (iZ w), .int (iZ h), .int (iZ mn), .ref hw, .ref hs, .ref hk])), (hw, .inl (cL, 16384, .inr (.inl (aL u))))]) A) (zX (fun E => E = "java/lang/IllegalArgumentException" ∧ ¬ (-4096 ≤ x ∧ x ≤ 4096 ∧ -4096 ≤ y ∧ y ≤ 4096 ∧ 1 ≤ bw ∧ bw ≤ 2048 ∧ 1 ≤ bh ∧ bh ≤ 2048 ∧ 1 ≤ t ∧ t ≤ 200)) (dC, dI) vwCl [(cL, .long)] A [(hx_, .inr (4, [.ref hp, .ref hst, .ref hd, .ref hfa])), (hp, .inr (2, [.int (iZ w), .int (iZ h), .int (iZ mn), .ref hw, .ref hs, .ref hk])), (hw, .inl (cL, 16384, .inr (.inl (aL G))))]) ([.ref hx_, .int (iZ x), .int (iZ y), .int (iZ bw), .int (iZ bh), .int (iZ t)] : List Value).toArray s 2 12 A) (F0 m 46 ls []) := by
    intro n_46
    induction n_46 with
    | zero => intro row dn K i1 i4 i5 i3 hm; exact absurd hm (by omega)
    | succ n_46 ih_46 =>
      intro row dn K i1 i4 i5 i3 hm_46 H locs hP hD hS ls hl
      have i3b := i3.1
      refine lv_iload hx hb d_D_ellipse_46 (lv_at hl 8 rfl) ?_
      refine lv_iload hx hb d_D_ellipse_48 (lv_at hl 6 rfl) ?_
      refine zi_gt (tgt := 125) hx hb d_D_ellipse_50 (by decide) (by omega) (by omega) (by omega) (by omega) (fun c_50 => ?_) (fun c_50 => ?_)
      · have e9 := rw_fin i3 (by omega) (by omega) (Classical.byCases (fun (q9 : row ≤ h) => Or.inl q9) (fun q9 => Or.inr (fun x9 y9 p9 q8 => (el_out (by omega) (by omega) (by omega))))) (fun x9 y9 q1 q2 => (el_out (by omega) (by omega) (by omega)))
        refine lv_iload hx hb d_D_ellipse_125 (lv_at hl 7 rfl) ?_
        refine vx_ret ?_
        exact W.iret hx hb hr (fun t ht hW => ⟨⟨_, K, rfl, ⟨congrArg iZ e9.1, by omega, e9.2⟩, by rw [ht]; exact hP, va_K.moved hW.alike hK, hD⟩, hS.F ht⟩) hS.2.2 d_D_ellipse_127
      · refine lv_iconst (v := iZ (2)) hx hb d_D_ellipse_53 rfl ?_
        refine lv_iload hx hb d_D_ellipse_54 (lv_at hl 8 rfl) ?_
        refine lv_iload_n hx hb d_D_ellipse_56 rfl (lv_at hl 2 rfl) ?_
        refine zi_sub hx hb d_D_ellipse_57 ?_
        refine zi_mul hx hb d_D_ellipse_58 ?_
        refine lv_iload hx hb d_D_ellipse_59 (lv_at hl 4 rfl) ?_
        refine lv_iconst (v := iZ (1)) hx hb d_D_ellipse_61 rfl ?_
        refine zi_sub hx hb d_D_ellipse_62 ?_
        refine zi_sub hx hb d_D_ellipse_63 ?_
        refine zn_z (fun v e_v => ?_)
        refine lv_istore (lv' := [(9, .int (iZ v)), (0, .ref hx_), (1, .int (iZ x)), (2, .int (iZ y)), (3, .int (iZ bw)), (4, .int (iZ bh)), (5, .int (iZ t)), (6, .int (iZ bt)), (7, .int (iZ dn)), (8, .int (iZ row))]) hx hb d_D_ellipse_64 hl (by decide) rfl (fun ls hl => ?_)
        refine lv_iload_n hx hb d_D_ellipse_66 rfl (lv_at hl 4 rfl) ?_
        refine lv_iload hx hb d_D_ellipse_67 (lv_at hl 5 rfl) ?_
        refine lv_iload hx hb d_D_ellipse_69 (lv_at hl 0 rfl) ?_
        refine vp_callSi (va_runS (As := [.int (iZ bw), .int (iZ bh), .int (iZ v)]) (rest := []) ⟨hx, hb, hml, hown, hts⟩ (c_Reckoning_ellipseReach l dC dI bw bh v (by first | omega | assumption) (by first | omega | assumption) (by first | omega | assumption) (by first | omega | assumption) (by first | omega | assumption) (by first | omega | assumption)) (va_cwS 3 hts (gS t_395 t_396 t_14 t_397) rfl rfl rfl (by decide +kernel) ⟨Nat.le_of_ble_eq_true rfl, Nat.le_of_ble_eq_true rfl⟩) ⟨zPr_blind, zPr_pre hP hK [] [] rfl rfl⟩ rfl rfl hl.1 rfl (lv_room (Nat.le_of_ble_eq_true rfl)) d_D_ellipse_71 ⟨Nat.le_of_ble_eq_true rfl, Nat.le_of_ble_eq_true rfl⟩).run (fun r_71 q_71 => ?_)
        obtain ⟨k_71, rfl, q_71⟩ := q_71
        refine lv_istore (lv' := [(10, .int (iZ k_71)), (9, .int (iZ v)), (0, .ref hx_), (1, .int (iZ x)), (2, .int (iZ y)), (3, .int (iZ bw)), (4, .int (iZ bh)), (5, .int (iZ t)), (6, .int (iZ bt)), (7, .int (iZ dn)), (8, .int (iZ row))]) hx hb d_D_ellipse_74 hl (by decide) rfl (fun ls hl => ?_)
        refine lv_iload_n hx hb d_D_ellipse_76 rfl (lv_at hl 5 rfl) ?_
        refine lv_iconst (v := iZ (2)) hx hb d_D_ellipse_77 rfl ?_
        refine lv_iload hx hb d_D_ellipse_78 (lv_at hl 7 rfl) ?_
        refine zi_mul hx hb d_D_ellipse_80 ?_
        refine zi_sub hx hb d_D_ellipse_81 ?_
        refine lv_iload hx hb d_D_ellipse_82 (lv_at hl 6 rfl) ?_
        refine lv_iconst (v := iZ (2)) hx hb d_D_ellipse_84 rfl ?_
        refine lv_iload hx hb d_D_ellipse_85 (lv_at hl 7 rfl) ?_
        refine zi_mul hx hb d_D_ellipse_87 ?_
        refine zi_sub hx hb d_D_ellipse_88 ?_
        refine lv_iload hx hb d_D_ellipse_89 (lv_at hl 1 rfl) ?_
        refine vp_callSi (va_runS (As := [.int (iZ (bw - (2 * t))), .int (iZ (bh - (2 * t))), .int (iZ v)]) (rest := []) ⟨hx, hb, hml, hown, hts⟩ (c_Reckoning_ellipseReach l dC dI (bw - (2 * t)) (bh - (2 * t)) v (by first | omega | assumption) (by first | omega | assumption) (by first | omega | assumption) (by first | omega | assumption) (by first | omega | assumption) (by first | omega | assumption)) (va_cwS 3 hts (gS t_395 t_396 t_14 t_397) rfl rfl rfl (by decide +kernel) ⟨Nat.le_of_ble_eq_true rfl, Nat.le_of_ble_eq_true rfl⟩) ⟨zPr_blind, zPr_pre hP hK [] [] rfl rfl⟩ rfl rfl hl.1 rfl (lv_room (Nat.le_of_ble_eq_true rfl)) d_D_ellipse_91 ⟨Nat.le_of_ble_eq_true rfl, Nat.le_of_ble_eq_true rfl⟩).run (fun r_91 q_91 => ?_)
        obtain ⟨k_91, rfl, q_91⟩ := q_91
        have e91 := er_le (t := t) (by omega) (by omega) (by omega) (by omega) (by omega) q_71 q_91
        refine lv_istore (lv' := [(11, .int (iZ k_91)), (10, .int (iZ k_71)), (9, .int (iZ v)), (0, .ref hx_), (1, .int (iZ x)), (2, .int (iZ y)), (3, .int (iZ bw)), (4, .int (iZ bh)), (5, .int (iZ t)), (6, .int (iZ bt)), (7, .int (iZ dn)), (8, .int (iZ row))]) hx hb d_D_ellipse_94 hl (by decide) rfl (fun ls hl => ?_)
        refine lv_iload hx hb d_D_ellipse_96 (lv_at hl 1 rfl) ?_
        refine lv_iconst (v := iZ (-1)) hx hb d_D_ellipse_98 rfl ?_
        refine zi_eq (tgt := 119) hx hb d_D_ellipse_99 (by decide) (by omega) (by omega) (by omega) (by omega) (fun c_99 => ?_) (fun c_99 => ?_)
        · exact absurd c_99 (by omega)
        · refine lv_iload hx hb d_D_ellipse_102 (lv_at hl 10 rfl) ?_
          refine lv_aload_n hx hb d_D_ellipse_104 rfl (lv_at hl 3 rfl) ?_
          refine lv_iload hx hb d_D_ellipse_105 (lv_at hl 11 rfl) ?_
          refine lv_iload_n hx hb d_D_ellipse_107 rfl (lv_at hl 4 rfl) ?_
          refine lv_iload_n hx hb d_D_ellipse_108 rfl (lv_at hl 6 rfl) ?_
          refine lv_iload hx hb d_D_ellipse_109 (lv_at hl 1 rfl) ?_
          refine lv_iload hx hb d_D_ellipse_111 (lv_at hl 0 rfl) ?_
          refine zc_i (w1 := fun (u_113 : Int → Int64) => [(hx_, .inr (4, [.ref hp, .ref hst, .ref hd, .ref hfa])), (hp, .inr (2, [.int (iZ w), .int (iZ h), .int (iZ mn), .ref hw, .ref hs, .ref hk])), (hw, .inl (cL, 16384, .inr (.inl (aL u_113))))]) (wr := []) (va_runV (As := [.int (iZ row), .int (iZ x), .int (iZ bw), .int (iZ k_71), .int (iZ k_91)]) (rest := [.int (iZ dn)]) ⟨hx, hb, hml, hown, hts⟩ (c_DotSheet_drawEllipseRow l dC dI hx_ hst hd hfa hp hw hs hk cL w h mn K (drw mn (fun px py => onB w h px py && (elD x y bw bh t px py && decide (py < row))) pic) row x bw k_71 k_91 H.size (by first | omega | assumption) (by first | omega | assumption) (by first | omega | assumption) (by first | omega | assumption) (by first | omega | assumption) (by first | omega | assumption) (by first | omega | assumption) (by first | omega | assumption) (by first | omega | assumption) (by first | omega | assumption) (by first | omega | assumption) (by first | omega | assumption) (by first | omega | assumption) (by first | omega | assumption) (by first | omega | assumption) (by first | omega | assumption) (by first | omega | assumption)) (cwV 5 hts (gV t_402 t_404 s_5 t_1 t_405) rfl rfl rfl (by decide +kernel) ⟨Nat.le_of_ble_eq_true rfl, Nat.le_of_ble_eq_true rfl⟩) ⟨zPm_blind, va_recv hK hP (ci := 4) (q0 := 0) rfl rfl, zPm_pre hP hD hK [0, 1, 2] [0] rfl rfl rfl rfl⟩ rfl rfl hl.1 rfl (lv_room (Nat.le_of_ble_eq_true rfl)) d_D_ellipse_113 ⟨Nat.le_of_ble_eq_true rfl, Nat.le_of_ble_eq_true rfl⟩) hP hD hS hA [0, 1, 2] [] rfl rfl rfl (by decide) (fun r_113 u_113 H locs q_113 hP hD hS => ?_)
          have hP : va_P (dC, dI) vwCl [(hx_, .inr (4, [.ref hp, .ref hst, .ref hd, .ref hfa])), (hp, .inr (2, [.int (iZ w), .int (iZ h), .int (iZ mn), .ref hw, .ref hs, .ref hk])), (hw, .inl (cL, 16384, .inr (.inl (aL u_113))))] H := hP
          have hD : va_D A [(hx_, .inr (4, [.ref hp, .ref hst, .ref hd, .ref hfa])), (hp, .inr (2, [.int (iZ w), .int (iZ h), .int (iZ mn), .ref hw, .ref hs, .ref hk])), (hw, .inl (cL, 16384, .inr (.inl (aL u_113))))] := hD
          obtain ⟨rfl, q_113⟩ := q_113
          refine zi_add hx hb d_D_ellipse_116 ?_
          refine zn_z (fun v7_117 e_v7_117 => ?_)
          refine lv_istore (lv' := [(7, .int (iZ v7_117)), (11, .int (iZ k_91)), (10, .int (iZ k_71)), (9, .int (iZ v)), (0, .ref hx_), (1, .int (iZ x)), (2, .int (iZ y)), (3, .int (iZ bw)), (4, .int (iZ bh)), (5, .int (iZ t)), (6, .int (iZ bt)), (8, .int (iZ row))]) hx hb d_D_ellipse_117 hl (by decide) rfl (fun ls hl => ?_)
          refine lv_iinc (v := iZ (row + 1)) (lv' := [(8, .int (iZ (row + 1))), (7, .int (iZ v7_117)), (11, .int (iZ k_91)), (10, .int (iZ k_71)), (9, .int (iZ v)), (0, .ref hx_), (1, .int (iZ x)), (2, .int (iZ y)), (3, .int (iZ bw)), (4, .int (iZ bh)), (5, .int (iZ t)), (6, .int (iZ bt))]) hx hb d_D_ellipse_119 hl (k := 11) rfl (iZ_add _ _) (by decide) rfl (fun ls hl => ?_)
          refine lv_goto (tgt := 46) hx hb d_D_ellipse_122 (by decide) ?_
          exact ih_46 (row + 1) v7_117 u_113 (by omega) (by omega) (by omega) (by rw [e_v7_117]; exact rw_step i3 (by omega) (by omega) q_113 (fun px py => el_row (t := t) (by omega) (by omega) (by omega) e_v (by omega) (by omega) q_71 q_91 px py)) (by omega) _ _ hP hD hS ls (lv_sub hl [5, 6, 7, 8, 9, 10, 11, 1, 0] rfl)
  exact LP_46 _ v8_44 0 G (by omega) (by omega) (by omega) (rw_0 hR (by omega) (fun x9 y9 p9 q9 => el_out (by omega) (by omega) (by omega))) (Nat.lt_succ_self _) _ _ hP hD hS ls (lv_sub hl [3, 4, 5, 6, 7, 8, 2, 1, 0] rfl)
