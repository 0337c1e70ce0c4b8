/-! the ellipse in a row -/
theorem ell_1 {w h v : Int} (w1 : -2048 ≤ w) (w2 : w ≤ 2048) (h1 : -2048 ≤ h) (h2 : h ≤ 2048) (v1 : -4096 ≤ v) (v2 : v ≤ 4096) (c1 : ¬ w ≤ 0) (c4 : ¬ h ≤ 0) (c13 : (if v < 0 then -v else v) ≤ h) :
    0 < h * h ∧ h * h ≤ 4194304 ∧ 0 ≤ v * v ∧ v * v ≤ h * h ∧ 0 ≤ w * w ∧ w * w ≤ 4194304 ∧ (0 ≤ w * w * (h * h - v * v) ∧ w * w * (h * h - v * v) ≤ 17592186044416 ∧ w * w * (h * h - v * v) / (h * h) ≤ w * w ∧ 0 ≤ w * w * (h * h - v * v) / (h * h)) := by
  have a1 := sq_le (a := h) (b := 2048) (by omega) h2
  have a2 := sq_le (a := w) (b := 2048) (by omega) w2
  have a3 : 0 < h * h := Int.mul_pos (by omega) (by omega)
  have a4 := sq_nn v
  have a5 : v * v ≤ h * h := by
    by_cases q : v < 0
    · rw [if_pos q] at c13
      have := sq_le (a := -v) (b := h) (by omega) c13
      rw [Int.neg_mul_neg] at this; exact this
    · rw [if_neg q] at c13
      exact sq_le (by omega) c13
  have a6 := sq_nn w
  have a7 : 0 ≤ w * w * (h * h - v * v) := Int.mul_nonneg a6 (by omega)
  have a8 : w * w * (h * h - v * v) ≤ w * w * (h * h) := Int.mul_le_mul_of_nonneg_left (by omega) a6
  have a9 : w * w * (h * h) ≤ 4194304 * 4194304 := Int.mul_le_mul a2 a1 (by omega) (by decide)
  refine ⟨a3, by omega, a4, a5, a6, by omega, a7, by omega, ?_⟩
  have b1 : w * w * (h * h - v * v) / (h * h) ≤ w * w * (h * h) / (h * h) := Int.ediv_le_ediv a3 a8
  rw [Int.mul_ediv_cancel _ (by omega)] at b1
  exact ⟨b1, Int.ediv_nonneg a7 (by omega)⟩
theorem ell_2 {w h v z : Int} (w1 : -2048 ≤ w) (w2 : w ≤ 2048) (h1 : -2048 ≤ h) (h2 : h ≤ 2048) (v1 : -4096 ≤ v) (v2 : v ≤ 4096) (c1 : ¬ w ≤ 0) (c4 : ¬ h ≤ 0) (c13 : (if v < 0 then -v else v) ≤ h)
    (q : 0 ≤ z ∧ z ≤ 2097151 ∧ z * z ≤ w * w * (h * h - v * v) / (h * h) ∧ w * w * (h * h - v * v) / (h * h) < (z + 1) * (z + 1)) :
    0 ≤ z ∧ z ≤ w ∧ 0 < w ∧ 0 < h ∧ -h ≤ v ∧ v ≤ h ∧ ∀ u : Int, -z ≤ u ∧ u ≤ z ↔ u * h * (u * h) + v * w * (v * w) ≤ w * h * (w * h) := by
  obtain ⟨a3, -, -, -, -, -, a7, -, a9, -⟩ := ell_1 w1 w2 h1 h2 v1 v2 c1 c4 c13
  obtain ⟨z0, -, z1, z2⟩ := q
  have zw : z ≤ w := by
    have := sq_lt z0 (Int.le_trans z1 a9) (show w * w < (w + 1) * (w + 1) by rw [Int.add_mul, Int.mul_add, Int.mul_add]; omega) (by omega)
    omega
  refine ⟨z0, zw, by omega, by omega, by split at c13 <;> omega, by split at c13 <;> omega, ?_⟩
  intro u
  have key : u * u ≤ w * w * (h * h - v * v) / (h * h) ↔ u * h * (u * h) + v * w * (v * w) ≤ w * h * (w * h) := by
    rw [Int.le_ediv_iff_mul_le a3]
    have e1 : u * h * (u * h) = u * u * (h * h) := by grind
    have e2 : v * w * (v * w) = w * w * (v * v) := by grind
    have e3 : w * h * (w * h) = w * w * (h * h) := by grind
    rw [e1, e2, e3, Int.mul_sub]
    omega
  rw [← key]
  constructor
  · intro ⟨b1, b2⟩
    refine Int.le_trans ?_ z1
    by_cases s : 0 ≤ u
    · exact sq_le s b2
    · have := sq_le (a := -u) (b := z) (by omega) (by omega)
      rw [Int.neg_mul_neg] at this; exact this
  · intro b
    have c := Int.lt_of_le_of_lt b z2
    by_cases s : 0 ≤ u
    · have := sq_lt s (Int.le_refl _) c (by omega); omega
    · have := sq_lt (a := -u) (b := z + 1) (by omega) (Int.le_refl _) (by rw [Int.neg_mul_neg]; exact c) (by omega); omega
/-! factors -/
theorem fd_gp {x y z q : Int} (h : fdS x y z) (hy : 0 < y) : q ≤ z ↔ q * y ≤ x := by
  obtain ⟨h1, h2⟩ := h.1 hy
  constructor
  · intro a; exact Int.le_trans (Int.mul_le_mul_of_nonneg_right a (by omega)) h1
  · intro a
    rcases Int.lt_or_le z q with b | b
    · have c : (z + 1) * y ≤ q * y := Int.mul_le_mul_of_nonneg_right (by omega) (by omega)
      rw [Int.add_mul, Int.one_mul] at c; omega
    · exact b
theorem fd_gn {x y z q : Int} (h : fdS x y z) (hy : y < 0) : q ≤ z ↔ x ≤ q * y := by
  obtain ⟨h1, h2⟩ := h.2 hy
  constructor
  · intro a; exact Int.le_trans h1 (Int.mul_le_mul_of_nonpos_right a (by omega))
  · intro a
    rcases Int.lt_or_le z q with b | b
    · have c : q * y ≤ (z + 1) * y := Int.mul_le_mul_of_nonpos_right (by omega) (by omega)
      rw [Int.add_mul, Int.one_mul] at c; omega
    · exact b
theorem fd_abs {x y z : Int} (h : fdS x y z) (hy : y ≠ 0) (x1 : -1099511627776 ≤ x) (x2 : x ≤ 1099511627776) (y1 : -1099511627776 ≤ y) (y2 : y ≤ 1099511627776) : -1099511627776 ≤ z ∧ z ≤ 1099511627776 := by
  rcases Int.lt_or_gt_of_ne hy with q | q
  · refine ⟨(fd_gn h q).mpr ?_, ?_⟩
    · have : -y ≥ 1 := by omega
      have c : 1099511627776 * 1 ≤ 1099511627776 * (-y) := Int.mul_le_mul_of_nonneg_left this (by decide)
      have e : -1099511627776 * y = 1099511627776 * (-y) := by grind
      omega
    · rcases Int.lt_or_le 1099511627776 z with b | b
      · have b2 := (fd_gn h q (q := z)).mp (Int.le_refl z)
        have c : (1099511627777 : Int) * y ≥ z * y := Int.mul_le_mul_of_nonpos_right (by omega) (by omega)
        omega
      · exact b
  · refine ⟨(fd_gp h q).mpr ?_, ?_⟩
    · have c : 1099511627776 * 1 ≤ 1099511627776 * y := Int.mul_le_mul_of_nonneg_left (by omega) (by decide)
      have e : -1099511627776 * y = -(1099511627776 * y) := by grind
      omega
    · rcases Int.lt_or_le 1099511627776 z with b | b
      · have b2 := (fd_gp h q (q := z)).mp (Int.le_refl z)
        have c : (1099511627777 : Int) * y ≤ z * y := Int.mul_le_mul_of_nonneg_right (by omega) (by omega)
        omega
      · exact b
def lfS (k lo hi z : Int) : Prop := -1048576 ≤ z ∧ z ≤ 1048576 ∧ ∀ p : Int, -1048576 < p → p < 1048576 → (z ≤ p ↔ (0 < k → lo ≤ p * k) ∧ (k < 0 → p * k ≤ hi) ∧ (k = 0 → lo ≤ 0 ∧ 0 ≤ hi))
def gfS (k lo hi z : Int) : Prop := -1048576 ≤ z ∧ z ≤ 1048576 ∧ ∀ p : Int, -1048576 < p → p < 1048576 → (p ≤ z ↔ (0 < k → p * k ≤ hi) ∧ (k < 0 → lo ≤ p * k) ∧ (k = 0 → lo ≤ 0 ∧ 0 ≤ hi))
theorem lf_p {k lo hi z : Int} (hk : 0 < k) (h : fdS (-lo) k z) : lfS k lo hi (max (-1048576) (min 1048576 (-z))) := by
  refine ⟨by omega, by omega, fun p p1 p2 => ?_⟩
  have a := fd_gp h hk (q := -p)
  rw [Int.neg_mul] at a
  constructor
  · intro b; exact ⟨fun _ => by have := a.mp (by omega); omega, fun c => by omega, fun c => by omega⟩
  · intro ⟨b, _, _⟩; have := a.mpr (by have := b hk; omega); omega
theorem lf_n {k lo hi z : Int} (hk : k < 0) (h : fdS (-hi) k z) : lfS k lo hi (max (-1048576) (min 1048576 (-z))) := by
  refine ⟨by omega, by omega, fun p p1 p2 => ?_⟩
  have a := fd_gn h hk (q := -p)
  rw [Int.neg_mul] at a
  constructor
  · intro b; exact ⟨fun c => by omega, fun _ => by have := a.mp (by omega); omega, fun c => by omega⟩
  · intro ⟨_, b, _⟩; have := a.mpr (by have := b hk; omega); omega
theorem gf_p {k lo hi z : Int} (hk : 0 < k) (h : fdS hi k z) : gfS k lo hi (max (-1048576) (min 1048576 z)) := by
  refine ⟨by omega, by omega, fun p p1 p2 => ?_⟩
  have a := fd_gp h hk (q := p)
  constructor
  · intro b; exact ⟨fun _ => a.mp (by omega), fun c => by omega, fun c => by omega⟩
  · intro ⟨b, _, _⟩; have := a.mpr (b hk); omega
theorem gf_n {k lo hi z : Int} (hk : k < 0) (h : fdS lo k z) : gfS k lo hi (max (-1048576) (min 1048576 z)) := by
  refine ⟨by omega, by omega, fun p p1 p2 => ?_⟩
  have a := fd_gn h hk (q := p)
  constructor
  · intro b; exact ⟨fun c => by omega, fun _ => a.mp (by omega), fun c => by omega⟩
  · intro ⟨_, b, _⟩; have := a.mpr (b hk); omega
theorem lf_0 {k lo hi : Int} (hk : k = 0) (z : Int) (hz : (z = -1048576 ∧ lo ≤ 0 ∧ 0 ≤ hi) ∨ (z = 1048576 ∧ ¬ (lo ≤ 0 ∧ 0 ≤ hi))) : lfS k lo hi z := by
  refine ⟨by omega, by omega, fun p p1 p2 => ?_⟩
  rcases hz with ⟨rfl, b⟩ | ⟨rfl, b⟩
  · exact ⟨fun _ => ⟨fun c => by omega, fun c => by omega, fun _ => b⟩, fun _ => by omega⟩
  · exact ⟨fun c => by omega, fun c => absurd (c.2.2 hk) b⟩
theorem gf_0 {k lo hi : Int} (hk : k = 0) (z : Int) (hz : (z = 1048576 ∧ lo ≤ 0 ∧ 0 ≤ hi) ∨ (z = -1048576 ∧ ¬ (lo ≤ 0 ∧ 0 ≤ hi))) : gfS k lo hi z := by
  refine ⟨by omega, by omega, fun p p1 p2 => ?_⟩
  rcases hz with ⟨rfl, b⟩ | ⟨rfl, b⟩
  · exact ⟨fun _ => ⟨fun c => by omega, fun c => by omega, fun _ => b⟩, fun _ => by omega⟩
  · exact ⟨fun c => by omega, fun c => absurd (c.2.2 hk) b⟩
theorem d_Re_root_0 : decode c_yRe_root 0 = .ok (.lconst 0, 1) := by decide +kernel
theorem d_Re_root_1 : decode c_yRe_root 1 = .ok (.lstore_n 2, 1) := by decide +kernel
theorem d_Re_root_2 : decode c_yRe_root 2 = .ok (.ldc2_w 11, 3) := by decide +kernel
theorem d_Re_root_5 : decode c_yRe_root 5 = .ok (.lstore 4, 2) := by decide +kernel
theorem d_Re_root_7 : decode c_yRe_root 7 = .ok (.lload 4, 2) := by decide +kernel
theorem d_Re_root_9 : decode c_yRe_root 9 = .ok (.lconst 0, 1) := by decide +kernel
theorem d_Re_root_10 : decode c_yRe_root 10 = .ok (.lcmp, 1) := by decide +kernel
theorem d_Re_root_11 : decode c_yRe_root 11 = .ok (.ifCond .le 31, 3) := by decide +kernel
theorem d_Re_root_14 : decode c_yRe_root 14 = .ok (.lload_n 2, 1) := by decide +kernel
theorem d_Re_root_15 : decode c_yRe_root 15 = .ok (.lload 4, 2) := by decide +kernel
theorem d_Re_root_17 : decode c_yRe_root 17 = .ok (.ladd, 1) := by decide +kernel
theorem d_Re_root_18 : decode c_yRe_root 18 = .ok (.lstore 6, 2) := by decide +kernel
theorem d_Re_root_20 : decode c_yRe_root 20 = .ok (.lload 6, 2) := by decide +kernel
theorem d_Re_root_22 : decode c_yRe_root 22 = .ok (.lload 6, 2) := by decide +kernel
theorem d_Re_root_24 : decode c_yRe_root 24 = .ok (.lmul, 1) := by decide +kernel
theorem d_Re_root_25 : decode c_yRe_root 25 = .ok (.lload_n 0, 1) := by decide +kernel
theorem d_Re_root_26 : decode c_yRe_root 26 = .ok (.lcmp, 1) := by decide +kernel
theorem d_Re_root_27 : decode c_yRe_root 27 = .ok (.ifCond .gt 6, 3) := by decide +kernel
theorem d_Re_root_30 : decode c_yRe_root 30 = .ok (.lload 6, 2) := by decide +kernel
theorem d_Re_root_32 : decode c_yRe_root 32 = .ok (.lstore_n 2, 1) := by decide +kernel
theorem d_Re_root_33 : decode c_yRe_root 33 = .ok (.lload 4, 2) := by decide +kernel
theorem d_Re_root_35 : decode c_yRe_root 35 = .ok (.iconst 1, 1) := by decide +kernel
theorem d_Re_root_36 : decode c_yRe_root 36 = .ok (.lshr, 1) := by decide +kernel
theorem d_Re_root_37 : decode c_yRe_root 37 = .ok (.lstore 4, 2) := by decide +kernel
theorem d_Re_root_39 : decode c_yRe_root 39 = .ok (.goto (-32), 3) := by decide +kernel
theorem d_Re_root_42 : decode c_yRe_root 42 = .ok (.lload_n 2, 1) := by decide +kernel
theorem d_Re_root_43 : decode c_yRe_root 43 = .ok (.lreturn, 1) := by decide +kernel
set_option maxHeartbeats 4000000 in
set_option maxRecDepth 100000 in
/-- root(n): the greatest number whose square is not above n -/
theorem c_Reckoning_root (l : Launch) (dC : Nat → ClassId) (dI : Nat → Nat → Nat) (n : Int) (n1 : 0 ≤ n) (n2 : n < 4398046511104) : Met l y_Re_root w_Re_root ({ frames := 0, cells := 0, slots := 0, locals := 0 }) (va_Pc [.long (lZ n)] (zPr (dC, dI) vwCl [] [])) (vp_Sl (fun r => ∃ z : Int, r = lZ z ∧ 0 ≤ z ∧ z ≤ 2097151 ∧ z * z ≤ n ∧ n < (z + 1) * (z + 1))) 0 0 (fun _ => False) := by
  refine Met.ofW (cc := c_yRe_root) (maxL := 8) (ret := (some .long)) (by decide) rfl ?_
  intro p e s m args below meth c s₁ B hml hv
  obtain ⟨rfl, hP, hK⟩ := hv
  have hx := B.exec
  have hb := B.bytes
  have hr := B.returns
  have hts0 := atoms_spec (ws := w_Re_root) B.pre
  have hts : ∀ w ∈ gT, w.before _ s = true := fun w h => hts0 w (List.mem_cons_of_mem _ h)
  have hown : s.vm.findClass R_Re = some m.cls := findClass_of_methodNamed B.named
  have hlocks := B.notSynchronized
  have hl := lv_entry ([.long (lZ n)]) (n := 8) (Nat.le_of_ble_eq_true rfl)
  rw [lg_entry_eq]
  generalize (lg_sl ([.long (lZ n)]) ++ List.replicate (8 - (lg_sl ([.long (lZ n)])).length) Slot.unset).toArray = ls at hl ⊢
  have hl : lv_has ls 8 [(0, .long (lZ n))] := hl
  refine lv_lconst (v := lZ 0) hx hb d_Re_root_0 (by decide) ?_
  refine lv_lstore_n (lv' := [(2, .long (lZ 0)), (0, .long (lZ n))]) hx hb d_Re_root_1 rfl hl (by decide) rfl (fun ls hl => ?_)
  refine lv_ldc2 (v := lZ (1048576)) hx hb hown (hts _ t_310) d_Re_root_2 ?_
  refine lv_lstore (lv' := [(4, .long (lZ 1048576)), (2, .long (lZ 0)), (0, .long (lZ n))]) hx hb d_Re_root_5 hl (by decide) rfl (fun ls hl => ?_)
  have LP_7 : ∀ (n_7 : Nat) (b : Int) (z : Int) (B : Int), (0 ≤ z) → (z * z ≤ n) → (n < (z + B) * (z + B)) → (b = B / 2) → (pow2 B) → (B ≤ 2097152) → B.toNat < n_7 → ∀ (ls : Array Slot), lv_has ls 8 [(0, .long (lZ n)), (2, .long (lZ z)), (4, .long (lZ b))] → W p l e ({ frames := 0, cells := 0, slots := 0, locals := 0 } : Room) s m ([.long (lZ n)] : List Value).toArray below meth c s.heap [] 0 0 (MQ below (vp_Sl (fun r => ∃ z : Int, r = lZ z ∧ 0 ≤ z ∧ z ≤ 2097151 ∧ z * z ≤ n ∧ n < (z + 1) * (z + 1))) ([.long (lZ n)] : List Value).toArray s 0 0 (fun _ => False)) (F0 m 7 ls []) := by
    intro n_7
    induction n_7 with
    | zero => intro b z B i1 i2 i3 i4 i5 i6 hm; exact absurd hm (by omega)
    | succ n_7 ih_7 =>
      intro b z B i1 i2 i3 i4 i5 i6 hm_7 ls hl
      have z2 := sq_lt i1 i2 (show n < 2097152 * 2097152 by omega) (by decide)
      have B1 := pow2_pos i5
      refine lv_lload hx hb d_Re_root_7 (lv_at hl 2 rfl) ?_
      refine lv_lconst (v := lZ 0) hx hb d_Re_root_9 (by decide) ?_
      refine zl_le (tgt := 42) hx hb d_Re_root_10 d_Re_root_11 (by decide) (by omega) (by omega) (by omega) (by omega) (fun c_10 => ?_) (fun c_10 => ?_)
      · refine lv_lload_n hx hb d_Re_root_42 rfl (lv_at hl 1 rfl) ?_
        exact W.lret hx hb hr (fun t ht hW => ⟨_, rfl, ⟨z, rfl, i1, by omega, i2, by rw [show z + 1 = z + B by omega]; exact i3⟩, ht⟩) (fun q h => nomatch h) d_Re_root_43
      · refine lv_lload_n hx hb d_Re_root_14 rfl (lv_at hl 1 rfl) ?_
        refine lv_lload hx hb d_Re_root_15 (lv_at hl 2 rfl) ?_
        refine zl_add hx hb d_Re_root_17 ?_
        refine zn_Z (fun v6_18 e_v6_18 => ?_)
        refine lv_lstore (lv' := [(6, .long (lZ v6_18)), (0, .long (lZ n)), (2, .long (lZ z)), (4, .long (lZ b))]) hx hb d_Re_root_18 hl (by decide) rfl (fun ls hl => ?_)
        have b1 : 2 * b = B := by have := pow2_even i5 (by omega); omega
        have p1 := sq_le (a := v6_18) (b := 3145728) (by omega) (by omega)
        have p0 := sq_nn v6_18
        refine lv_lload hx hb d_Re_root_20 (lv_at hl 0 rfl) ?_
        refine lv_lload hx hb d_Re_root_22 (lv_at hl 0 rfl) ?_
        refine zl_mul hx hb d_Re_root_24 ?_
        refine lv_lload_n hx hb d_Re_root_25 rfl (lv_at hl 1 rfl) ?_
        refine zl_gt (tgt := 33) hx hb d_Re_root_26 d_Re_root_27 (by decide) (by omega) (by omega) (by omega) (by omega) (fun c_26 => ?_) (fun c_26 => ?_)
        · refine lv_lload hx hb d_Re_root_33 (lv_at hl 3 rfl) ?_
          refine lv_iconst (v := iZ (1)) hx hb d_Re_root_35 rfl ?_
          refine lv_lshr (v := (lZ (b / 2))) hx hb d_Re_root_36 (zl_shr 1 (by omega) (by omega) (by decide) (by decide)) ?_
          refine zn_Z (fun b2 e_b2 => ?_)
          refine lv_lstore (lv' := [(4, .long (lZ b2)), (6, .long (lZ v6_18)), (0, .long (lZ n)), (2, .long (lZ z))]) hx hb d_Re_root_37 hl (by decide) rfl (fun ls hl => ?_)
          refine lv_goto (tgt := 7) hx hb d_Re_root_39 (by decide) ?_
          exact ih_7 b2 z (B / 2) (by omega) (by omega) (by first | (rw [show z + B / 2 = v6_18 by omega]; omega) | (rw [show v6_18 + B / 2 = z + B by omega]; exact i3)) (by omega) (pow2_half i5 (by omega)) (by omega) (by omega) ls (lv_sub hl [2, 3, 0] rfl)
        · refine lv_lload hx hb d_Re_root_30 (lv_at hl 0 rfl) ?_
          refine lv_lstore_n (lv' := [(2, .long (lZ v6_18)), (6, .long (lZ v6_18)), (0, .long (lZ n)), (4, .long (lZ b))]) hx hb d_Re_root_32 rfl hl (by decide) rfl (fun ls hl => ?_)
          refine lv_lload hx hb d_Re_root_33 (lv_at hl 3 rfl) ?_
          refine lv_iconst (v := iZ (1)) hx hb d_Re_root_35 rfl ?_
          refine lv_lshr (v := (lZ (b / 2))) hx hb d_Re_root_36 (zl_shr 1 (by omega) (by omega) (by decide) (by decide)) ?_
          refine zn_Z (fun b2 e_b2 => ?_)
          refine lv_lstore (lv' := [(4, .long (lZ b2)), (2, .long (lZ v6_18)), (6, .long (lZ v6_18)), (0, .long (lZ n))]) hx hb d_Re_root_37 hl (by decide) rfl (fun ls hl => ?_)
          refine lv_goto (tgt := 7) hx hb d_Re_root_39 (by decide) ?_
          exact ih_7 b2 v6_18 (B / 2) (by omega) (by omega) (by first | (rw [show z + B / 2 = v6_18 by omega]; omega) | (rw [show v6_18 + B / 2 = z + B by omega]; exact i3)) (by omega) (pow2_half i5 (by omega)) (by omega) (by omega) ls (lv_sub hl [3, 1, 0] rfl)
  exact LP_7 _ 1048576 0 2097152 (by omega) (by omega) (by omega) (by decide) (⟨21, rfl⟩) (by omega) (Nat.lt_succ_self _) ls (lv_sub hl [2, 1, 0] rfl)
theorem d_Re_ellipseReach_0 : decode c_yRe_ellipseReach 0 = .ok (.iload_n 0, 1) := by decide +kernel
theorem d_Re_ellipseReach_1 : decode c_yRe_ellipseReach 1 = .ok (.ifCond .le 15, 3) := by decide +kernel
theorem d_Re_ellipseReach_4 : decode c_yRe_ellipseReach 4 = .ok (.iload_n 1, 1) := by decide +kernel
theorem d_Re_ellipseReach_5 : decode c_yRe_ellipseReach 5 = .ok (.ifCond .le 11, 3) := by decide +kernel
theorem d_Re_ellipseReach_8 : decode c_yRe_ellipseReach 8 = .ok (.iload_n 2, 1) := by decide +kernel
theorem d_Re_ellipseReach_9 : decode c_yRe_ellipseReach 9 = .ok (.invokestatic 13, 3) := by decide +kernel
theorem d_Re_ellipseReach_12 : decode c_yRe_ellipseReach 12 = .ok (.iload_n 1, 1) := by decide +kernel
theorem d_Re_ellipseReach_13 : decode c_yRe_ellipseReach 13 = .ok (.if_icmp .le 5, 3) := by decide +kernel
theorem d_Re_ellipseReach_16 : decode c_yRe_ellipseReach 16 = .ok (.iconst (-1), 1) := by decide +kernel
theorem d_Re_ellipseReach_17 : decode c_yRe_ellipseReach 17 = .ok (.ireturn, 1) := by decide +kernel
theorem d_Re_ellipseReach_18 : decode c_yRe_ellipseReach 18 = .ok (.iload_n 1, 1) := by decide +kernel
theorem d_Re_ellipseReach_19 : decode c_yRe_ellipseReach 19 = .ok (.i2l, 1) := by decide +kernel
theorem d_Re_ellipseReach_20 : decode c_yRe_ellipseReach 20 = .ok (.iload_n 1, 1) := by decide +kernel
theorem d_Re_ellipseReach_21 : decode c_yRe_ellipseReach 21 = .ok (.i2l, 1) := by decide +kernel
theorem d_Re_ellipseReach_22 : decode c_yRe_ellipseReach 22 = .ok (.lmul, 1) := by decide +kernel
theorem d_Re_ellipseReach_23 : decode c_yRe_ellipseReach 23 = .ok (.lstore_n 3, 1) := by decide +kernel
theorem d_Re_ellipseReach_24 : decode c_yRe_ellipseReach 24 = .ok (.iload_n 0, 1) := by decide +kernel
theorem d_Re_ellipseReach_25 : decode c_yRe_ellipseReach 25 = .ok (.i2l, 1) := by decide +kernel
theorem d_Re_ellipseReach_26 : decode c_yRe_ellipseReach 26 = .ok (.iload_n 0, 1) := by decide +kernel
theorem d_Re_ellipseReach_27 : decode c_yRe_ellipseReach 27 = .ok (.i2l, 1) := by decide +kernel
theorem d_Re_ellipseReach_28 : decode c_yRe_ellipseReach 28 = .ok (.lmul, 1) := by decide +kernel
theorem d_Re_ellipseReach_29 : decode c_yRe_ellipseReach 29 = .ok (.lload_n 3, 1) := by decide +kernel
theorem d_Re_ellipseReach_30 : decode c_yRe_ellipseReach 30 = .ok (.iload_n 2, 1) := by decide +kernel
theorem d_Re_ellipseReach_31 : decode c_yRe_ellipseReach 31 = .ok (.i2l, 1) := by decide +kernel
theorem d_Re_ellipseReach_32 : decode c_yRe_ellipseReach 32 = .ok (.iload_n 2, 1) := by decide +kernel
theorem d_Re_ellipseReach_33 : decode c_yRe_ellipseReach 33 = .ok (.i2l, 1) := by decide +kernel
theorem d_Re_ellipseReach_34 : decode c_yRe_ellipseReach 34 = .ok (.lmul, 1) := by decide +kernel
theorem d_Re_ellipseReach_35 : decode c_yRe_ellipseReach 35 = .ok (.lsub, 1) := by decide +kernel
theorem d_Re_ellipseReach_36 : decode c_yRe_ellipseReach 36 = .ok (.lmul, 1) := by decide +kernel
theorem d_Re_ellipseReach_37 : decode c_yRe_ellipseReach 37 = .ok (.lload_n 3, 1) := by decide +kernel
theorem d_Re_ellipseReach_38 : decode c_yRe_ellipseReach 38 = .ok (.ldiv, 1) := by decide +kernel
theorem d_Re_ellipseReach_39 : decode c_yRe_ellipseReach 39 = .ok (.invokestatic 19, 3) := by decide +kernel
theorem d_Re_ellipseReach_42 : decode c_yRe_ellipseReach 42 = .ok (.l2i, 1) := by decide +kernel
theorem d_Re_ellipseReach_43 : decode c_yRe_ellipseReach 43 = .ok (.ireturn, 1) := by decide +kernel
set_option maxHeartbeats 4000000 in
set_option maxRecDepth 100000 in
/-- the greatest u with (u h)^2 + (v w)^2 not above (w h)^2 -/
theorem c_Reckoning_ellipseReach (l : Launch) (dC : Nat → ClassId) (dI : Nat → Nat → Nat) (w h v : Int) (w1 : -2048 ≤ w) (w2 : w ≤ 2048) (h1 : -2048 ≤ h) (h2 : h ≤ 2048) (v1 : -4096 ≤ v) (v2 : v ≤ 4096) : Met l y_Re_ellipseReach w_Re_ellipseReach ({ frames := 1, cells := 0, slots := 0, locals := 27 }) (va_Pc [.int (iZ w), .int (iZ h), .int (iZ v)] (zPr (dC, dI) vwCl [] [])) (vp_Si (fun r => ∃ z : Int, r = iZ z ∧ ((z = -1 ∧ (w ≤ 0 ∨ h ≤ 0 ∨ v < -h ∨ h < v)) ∨ (0 ≤ z ∧ z ≤ w ∧ 0 < w ∧ 0 < h ∧ -h ≤ v ∧ v ≤ h ∧ ∀ u : Int, -z ≤ u ∧ u ≤ z ↔ u * h * (u * h) + v * w * (v * w) ≤ w * h * (w * h))))) 0 0 (fun _ => False) := by
  refine Met.ofW (cc := c_yRe_ellipseReach) (maxL := 5) (ret := (some .int)) (by decide) rfl ?_
  intro p e s m args below meth c s₁ B hml hv
  obtain ⟨rfl, hP, hK⟩ := hv
  have hx := B.exec
  have hb := B.bytes
  have hr := B.returns
  have hts0 := atoms_spec (ws := w_Re_ellipseReach) B.pre
  have hts : ∀ w ∈ gT, w.before _ s = true := fun w h => hts0 w (List.mem_cons_of_mem _ h)
  have hown : s.vm.findClass R_Re = some m.cls := findClass_of_methodNamed B.named
  have hlocks := B.notSynchronized
  have hl := lv_entry ([.int (iZ w), .int (iZ h), .int (iZ v)]) (n := 5) (Nat.le_of_ble_eq_true rfl)
  rw [lg_entry_eq]
  generalize (lg_sl ([.int (iZ w), .int (iZ h), .int (iZ v)]) ++ List.replicate (5 - (lg_sl ([.int (iZ w), .int (iZ h), .int (iZ v)])).length) Slot.unset).toArray = ls at hl ⊢
  have hl : lv_has ls 5 [(0, .int (iZ w)), (1, .int (iZ h)), (2, .int (iZ v))] := hl
  refine lv_iload_n hx hb d_Re_ellipseReach_0 rfl (lv_at hl 0 rfl) ?_
  refine zi_if_le (tgt := 16) hx hb d_Re_ellipseReach_1 (by decide) (by omega) (by omega) (fun c_1 => ?_) (fun c_1 => ?_)
  · refine lv_iconst (v := iZ (-1)) hx hb d_Re_ellipseReach_16 rfl ?_
    exact W.iret hx hb hr (fun t ht hW => ⟨_, rfl, ⟨-1, rfl, Or.inl ⟨rfl, by omega⟩⟩, ht⟩) (fun q h => nomatch h) d_Re_ellipseReach_17
  · refine lv_iload_n hx hb d_Re_ellipseReach_4 rfl (lv_at hl 1 rfl) ?_
    refine zi_if_le (tgt := 16) hx hb d_Re_ellipseReach_5 (by decide) (by omega) (by omega) (fun c_5 => ?_) (fun c_5 => ?_)
    · refine lv_iconst (v := iZ (-1)) hx hb d_Re_ellipseReach_16 rfl ?_
      exact W.iret hx hb hr (fun t ht hW => ⟨_, rfl, ⟨-1, rfl, Or.inl ⟨rfl, by omega⟩⟩, ht⟩) (fun q h => nomatch h) d_Re_ellipseReach_17
    · refine lv_iload_n hx hb d_Re_ellipseReach_8 rfl (lv_at hl 2 rfl) ?_
      refine vp_callSi (va_runS (As := [.int (iZ v)]) (rest := []) ⟨hx, hb, hml, hown, hts⟩ (c_Math_abs l dC dI v (by first | omega | assumption) (by first | omega | assumption)) (va_cwS 1 hts (gS t_398 t_399 t_12 t_400) rfl rfl rfl (by decide +kernel) ⟨Nat.le_of_ble_eq_true rfl, Nat.le_of_ble_eq_true rfl⟩) ⟨zPr_blind, zPr_pre hP hK [] [] rfl rfl⟩ rfl rfl hl.1 rfl (lv_room (Nat.le_of_ble_eq_true rfl)) d_Re_ellipseReach_9 ⟨Nat.le_of_ble_eq_true rfl, Nat.le_of_ble_eq_true rfl⟩).run (fun r_9 q_9 => ?_)
      obtain rfl := q_9
      refine lv_iload_n hx hb d_Re_ellipseReach_12 rfl (lv_at hl 1 rfl) ?_
      refine zi_le (tgt := 18) hx hb d_Re_ellipseReach_13 (by decide) (by omega) (by omega) (by omega) (by omega) (fun c_13 => ?_) (fun c_13 => ?_)
      · refine lv_iload_n hx hb d_Re_ellipseReach_18 rfl (lv_at hl 1 rfl) ?_
        refine zi_l hx hb d_Re_ellipseReach_19 (by omega) (by omega) ?_
        refine lv_iload_n hx hb d_Re_ellipseReach_20 rfl (lv_at hl 1 rfl) ?_
        refine zi_l hx hb d_Re_ellipseReach_21 (by omega) (by omega) ?_
        refine zl_mul hx hb d_Re_ellipseReach_22 ?_
        refine zn_Z (fun hh e_hh => ?_)
        refine lv_lstore_n (lv' := [(3, .long (lZ hh)), (0, .int (iZ w)), (1, .int (iZ h)), (2, .int (iZ v))]) hx hb d_Re_ellipseReach_23 rfl hl (by decide) rfl (fun ls hl => ?_)
        have q1 := ell_1 w1 w2 h1 h2 v1 v2 c_1 c_5 c_13
        rw [← e_hh] at q1
        obtain ⟨q1a, q1b, q1c, q1d, q1e, q1f, q1g, q1h, q1i, q1j⟩ := q1
        refine lv_iload_n hx hb d_Re_ellipseReach_24 rfl (lv_at hl 1 rfl) ?_
        refine zi_l hx hb d_Re_ellipseReach_25 (by omega) (by omega) ?_
        refine lv_iload_n hx hb d_Re_ellipseReach_26 rfl (lv_at hl 1 rfl) ?_
        refine zi_l hx hb d_Re_ellipseReach_27 (by omega) (by omega) ?_
        refine zl_mul hx hb d_Re_ellipseReach_28 ?_
        refine lv_lload_n hx hb d_Re_ellipseReach_29 rfl (lv_at hl 0 rfl) ?_
        refine lv_iload_n hx hb d_Re_ellipseReach_30 rfl (lv_at hl 3 rfl) ?_
        refine zi_l hx hb d_Re_ellipseReach_31 (by omega) (by omega) ?_
        refine lv_iload_n hx hb d_Re_ellipseReach_32 rfl (lv_at hl 3 rfl) ?_
        refine zi_l hx hb d_Re_ellipseReach_33 (by omega) (by omega) ?_
        refine zl_mul hx hb d_Re_ellipseReach_34 ?_
        refine zl_sub hx hb d_Re_ellipseReach_35 ?_
        refine zl_mul hx hb d_Re_ellipseReach_36 ?_
        refine lv_lload_n hx hb d_Re_ellipseReach_37 rfl (lv_at hl 0 rfl) ?_
        refine zl_div hx hb d_Re_ellipseReach_38 (by omega) (by omega) (by omega) (by omega) ?_
        refine vp_callSl (va_runS (As := [.long (lZ (((w * w) * (hh - (v * v))) / hh))]) (rest := []) ⟨hx, hb, hml, hown, hts⟩ (c_Reckoning_root l dC dI (((w * w) * (hh - (v * v))) / hh) (by first | omega | assumption) (by first | omega | assumption)) (va_cwS 1 hts (gS t_401 t_308 t_14 t_309) rfl rfl rfl (by decide +kernel) ⟨Nat.le_of_ble_eq_true rfl, Nat.le_of_ble_eq_true rfl⟩) ⟨zPr_blind, zPr_pre hP hK [] [] rfl rfl⟩ rfl rfl hl.1 rfl (lv_room (Nat.le_of_ble_eq_true rfl)) d_Re_ellipseReach_39 ⟨Nat.le_of_ble_eq_true rfl, Nat.le_of_ble_eq_true rfl⟩).run (fun r_39 q_39 => ?_)
        obtain ⟨k_39, rfl, q_39⟩ := q_39
        refine zl_i hx hb d_Re_ellipseReach_42 ?_
        exact W.iret hx hb hr (fun t ht hW => ⟨_, rfl, ⟨k_39, rfl, Or.inr (ell_2 w1 w2 h1 h2 v1 v2 c_1 c_5 c_13 (by rw [← e_hh]; exact q_39))⟩, ht⟩) (fun q h => nomatch h) d_Re_ellipseReach_43
      · refine lv_iconst (v := iZ (-1)) hx hb d_Re_ellipseReach_16 rfl ?_
        exact W.iret hx hb hr (fun t ht hW => ⟨_, rfl, ⟨-1, rfl, Or.inl ⟨rfl, by omega⟩⟩, ht⟩) (fun q h => nomatch h) d_Re_ellipseReach_17
theorem d_Re_firstStep_0 : decode c_yRe_firstStep 0 = .ok (.iload_n 0, 1) := by decide +kernel
theorem d_Re_firstStep_1 : decode c_yRe_firstStep 1 = .ok (.iload_n 1, 1) := by decide +kernel
theorem d_Re_firstStep_2 : decode c_yRe_firstStep 2 = .ok (.isub, 1) := by decide +kernel
theorem d_Re_firstStep_3 : decode c_yRe_firstStep 3 = .ok (.iconst 2, 1) := by decide +kernel
theorem d_Re_firstStep_4 : decode c_yRe_firstStep 4 = .ok (.invokestatic 23, 3) := by decide +kernel
theorem d_Re_firstStep_7 : decode c_yRe_firstStep 7 = .ok (.ireturn, 1) := by decide +kernel
set_option maxHeartbeats 4000000 in
set_option maxRecDepth 100000 in
theorem c_Reckoning_firstStep (l : Launch) (dC : Nat → ClassId) (dI : Nat → Nat → Nat) (w q : Int) (w1 : w ≤ 2048) (q1 : 0 ≤ q) (q2 : q ≤ w) : Met l y_Re_firstStep w_Re_firstStep ({ frames := 1, cells := 0, slots := 0, locals := 22 }) (va_Pc [.int (iZ w), .int (iZ q)] (zPr (dC, dI) vwCl [] [])) (vp_Si (fun r => r = iZ ((w - q) / 2))) 0 0 (fun _ => False) := by
  refine Met.ofW (cc := c_yRe_firstStep) (maxL := 2) (ret := (some .int)) (by decide) rfl ?_
  intro p e s m args below meth c s₁ B hml hv
  obtain ⟨rfl, hP, hK⟩ := hv
  have hx := B.exec
  have hb := B.bytes
  have hr := B.returns
  have hts0 := atoms_spec (ws := w_Re_firstStep) B.pre
  have hts : ∀ w ∈ gT, w.before _ s = true := fun w h => hts0 w (List.mem_cons_of_mem _ h)
  have hown : s.vm.findClass R_Re = some m.cls := findClass_of_methodNamed B.named
  have hlocks := B.notSynchronized
  have hl := lv_entry ([.int (iZ w), .int (iZ q)]) (n := 2) (Nat.le_of_ble_eq_true rfl)
  rw [lg_entry_eq]
  generalize (lg_sl ([.int (iZ w), .int (iZ q)]) ++ List.replicate (2 - (lg_sl ([.int (iZ w), .int (iZ q)])).length) Slot.unset).toArray = ls at hl ⊢
  have hl : lv_has ls 2 [(0, .int (iZ w)), (1, .int (iZ q))] := hl
  refine lv_iload_n hx hb d_Re_firstStep_0 rfl (lv_at hl 0 rfl) ?_
  refine lv_iload_n hx hb d_Re_firstStep_1 rfl (lv_at hl 1 rfl) ?_
  refine zi_sub hx hb d_Re_firstStep_2 ?_
  refine lv_iconst (v := iZ (2)) hx hb d_Re_firstStep_3 rfl ?_
  refine vp_callSi (va_runS (As := [.int (iZ (w - q)), .int (iZ 2)]) (rest := []) ⟨hx, hb, hml, hown, hts⟩ (c_Math_fdi l dC dI (w - q) 2 (by first | omega | assumption) (by first | omega | assumption) (by first | omega | assumption) (by first | omega | assumption)) (va_cwS 2 hts (gS t_409 t_410 t_12 t_411) rfl rfl rfl (by decide +kernel) ⟨Nat.le_of_ble_eq_true rfl, Nat.le_of_ble_eq_true rfl⟩) ⟨zPr_blind, zPr_pre hP hK [] [] rfl rfl⟩ rfl rfl hl.1 rfl (lv_room (Nat.le_of_ble_eq_true rfl)) d_Re_firstStep_4 ⟨Nat.le_of_ble_eq_true rfl, Nat.le_of_ble_eq_true rfl⟩).run (fun r_4 q_4 => ?_)
  obtain rfl := q_4
  exact W.iret hx hb hr (fun t ht hW => ⟨_, rfl, rfl, ht⟩) (fun q h => nomatch h) d_Re_firstStep_7
theorem d_Re_lastStep_0 : decode c_yRe_lastStep 0 = .ok (.iload_n 0, 1) := by decide +kernel
theorem d_Re_lastStep_1 : decode c_yRe_lastStep 1 = .ok (.iconst 1, 1) := by decide +kernel
theorem d_Re_lastStep_2 : decode c_yRe_lastStep 2 = .ok (.isub, 1) := by decide +kernel
theorem d_Re_lastStep_3 : decode c_yRe_lastStep 3 = .ok (.iload_n 1, 1) := by decide +kernel
theorem d_Re_lastStep_4 : decode c_yRe_lastStep 4 = .ok (.iadd, 1) := by decide +kernel
theorem d_Re_lastStep_5 : decode c_yRe_lastStep 5 = .ok (.iconst 2, 1) := by decide +kernel
theorem d_Re_lastStep_6 : decode c_yRe_lastStep 6 = .ok (.invokestatic 23, 3) := by decide +kernel
theorem d_Re_lastStep_9 : decode c_yRe_lastStep 9 = .ok (.ireturn, 1) := by decide +kernel
set_option maxHeartbeats 4000000 in
set_option maxRecDepth 100000 in
theorem c_Reckoning_lastStep (l : Launch) (dC : Nat → ClassId) (dI : Nat → Nat → Nat) (w q : Int) (w0 : 1 ≤ w) (w1 : w ≤ 2048) (q1 : 0 ≤ q) (q2 : q ≤ w) : Met l y_Re_lastStep w_Re_lastStep ({ frames := 1, cells := 0, slots := 0, locals := 22 }) (va_Pc [.int (iZ w), .int (iZ q)] (zPr (dC, dI) vwCl [] [])) (vp_Si (fun r => r = iZ ((w - 1 + q) / 2))) 0 0 (fun _ => False) := by
  refine Met.ofW (cc := c_yRe_lastStep) (maxL := 2) (ret := (some .int)) (by decide) rfl ?_
  intro p e s m args below meth c s₁ B hml hv
  obtain ⟨rfl, hP, hK⟩ := hv
  have hx := B.exec
  have hb := B.bytes
  have hr := B.returns
  have hts0 := atoms_spec (ws := w_Re_lastStep) B.pre
  have hts : ∀ w ∈ gT, w.before _ s = true := fun w h => hts0 w (List.mem_cons_of_mem _ h)
  have hown : s.vm.findClass R_Re = some m.cls := findClass_of_methodNamed B.named
  have hlocks := B.notSynchronized
  have hl := lv_entry ([.int (iZ w), .int (iZ q)]) (n := 2) (Nat.le_of_ble_eq_true rfl)
  rw [lg_entry_eq]
  generalize (lg_sl ([.int (iZ w), .int (iZ q)]) ++ List.replicate (2 - (lg_sl ([.int (iZ w), .int (iZ q)])).length) Slot.unset).toArray = ls at hl ⊢
  have hl : lv_has ls 2 [(0, .int (iZ w)), (1, .int (iZ q))] := hl
  refine lv_iload_n hx hb d_Re_lastStep_0 rfl (lv_at hl 0 rfl) ?_
  refine lv_iconst (v := iZ (1)) hx hb d_Re_lastStep_1 rfl ?_
  refine zi_sub hx hb d_Re_lastStep_2 ?_
  refine lv_iload_n hx hb d_Re_lastStep_3 rfl (lv_at hl 1 rfl) ?_
  refine zi_add hx hb d_Re_lastStep_4 ?_
  refine lv_iconst (v := iZ (2)) hx hb d_Re_lastStep_5 rfl ?_
  refine vp_callSi (va_runS (As := [.int (iZ ((w - 1) + q)), .int (iZ 2)]) (rest := []) ⟨hx, hb, hml, hown, hts⟩ (c_Math_fdi l dC dI ((w - 1) + q) 2 (by first | omega | assumption) (by first | omega | assumption) (by first | omega | assumption) (by first | omega | assumption)) (va_cwS 2 hts (gS t_409 t_410 t_12 t_411) rfl rfl rfl (by decide +kernel) ⟨Nat.le_of_ble_eq_true rfl, Nat.le_of_ble_eq_true rfl⟩) ⟨zPr_blind, zPr_pre hP hK [] [] rfl rfl⟩ rfl rfl hl.1 rfl (lv_room (Nat.le_of_ble_eq_true rfl)) d_Re_lastStep_6 ⟨Nat.le_of_ble_eq_true rfl, Nat.le_of_ble_eq_true rfl⟩).run (fun r_6 q_6 => ?_)
  obtain rfl := q_6
  exact W.iret hx hb hr (fun t ht hW => ⟨_, rfl, rfl, ht⟩) (fun q h => nomatch h) d_Re_lastStep_9
theorem d_Re_nearer_0 : decode c_yRe_nearer 0 = .ok (.ldc2_w 36, 3) := by decide +kernel
theorem d_Re_nearer_3 : decode c_yRe_nearer 3 = .ok (.ldc2_w 11, 3) := by decide +kernel
theorem d_Re_nearer_6 : decode c_yRe_nearer 6 = .ok (.lload_n 0, 1) := by decide +kernel
theorem d_Re_nearer_7 : decode c_yRe_nearer 7 = .ok (.invokestatic 38, 3) := by decide +kernel
theorem d_Re_nearer_10 : decode c_yRe_nearer 10 = .ok (.invokestatic 41, 3) := by decide +kernel
theorem d_Re_nearer_13 : decode c_yRe_nearer 13 = .ok (.l2i, 1) := by decide +kernel
theorem d_Re_nearer_14 : decode c_yRe_nearer 14 = .ok (.ireturn, 1) := by decide +kernel
set_option maxHeartbeats 4000000 in
set_option maxRecDepth 100000 in
theorem c_Reckoning_nearer (l : Launch) (dC : Nat → ClassId) (dI : Nat → Nat → Nat) (q : Int) (q1 : -4611686018427387904 ≤ q) (q2 : q ≤ 4611686018427387904) : Met l y_Re_nearer w_Re_nearer ({ frames := 1, cells := 0, slots := 0, locals := 23 }) (va_Pc [.long (lZ q)] (zPr (dC, dI) vwCl [] [])) (vp_Si (fun r => r = iZ (max (-1048576) (min 1048576 q)))) 0 0 (fun _ => False) := by
  refine Met.ofW (cc := c_yRe_nearer) (maxL := 2) (ret := (some .int)) (by decide) rfl ?_
  intro p e s m args below meth c s₁ B hml hv
  obtain ⟨rfl, hP, hK⟩ := hv
  have hx := B.exec
  have hb := B.bytes
  have hr := B.returns
  have hts0 := atoms_spec (ws := w_Re_nearer) B.pre
  have hts : ∀ w ∈ gT, w.before _ s = true := fun w h => hts0 w (List.mem_cons_of_mem _ h)
  have hown : s.vm.findClass R_Re = some m.cls := findClass_of_methodNamed B.named
  have hlocks := B.notSynchronized
  have hl := lv_entry ([.long (lZ q)]) (n := 2) (Nat.le_of_ble_eq_true rfl)
  rw [lg_entry_eq]
  generalize (lg_sl ([.long (lZ q)]) ++ List.replicate (2 - (lg_sl ([.long (lZ q)])).length) Slot.unset).toArray = ls at hl ⊢
  have hl : lv_has ls 2 [(0, .long (lZ q))] := hl
  refine lv_ldc2 (v := lZ (-1048576)) hx hb hown (hts _ t_378) d_Re_nearer_0 ?_
  refine lv_ldc2 (v := lZ (1048576)) hx hb hown (hts _ t_310) d_Re_nearer_3 ?_
  refine lv_lload_n hx hb d_Re_nearer_6 rfl (lv_at hl 0 rfl) ?_
  refine vp_callSl (va_runS (As := [.long (lZ 1048576), .long (lZ q)]) (rest := [.long (lZ (-1048576))]) ⟨hx, hb, hml, hown, hts⟩ (c_Math_minl l dC dI 1048576 q (by first | omega | assumption) (by first | omega | assumption) (by first | omega | assumption) (by first | omega | assumption)) (va_cwS 2 hts (gS t_379 t_380 t_12 t_381) rfl rfl rfl (by decide +kernel) ⟨Nat.le_of_ble_eq_true rfl, Nat.le_of_ble_eq_true rfl⟩) ⟨zPr_blind, zPr_pre hP hK [] [] rfl rfl⟩ rfl rfl hl.1 rfl (lv_room (Nat.le_of_ble_eq_true rfl)) d_Re_nearer_7 ⟨Nat.le_of_ble_eq_true rfl, Nat.le_of_ble_eq_true rfl⟩).run (fun r_7 q_7 => ?_)
  obtain rfl := q_7
  refine vp_callSl (va_runS (As := [.long (lZ (-1048576)), .long (lZ (min 1048576 q))]) (rest := []) ⟨hx, hb, hml, hown, hts⟩ (c_Math_maxl l dC dI (-1048576) (min 1048576 q) (by first | omega | assumption) (by first | omega | assumption) (by first | omega | assumption) (by first | omega | assumption)) (va_cwS 2 hts (gS t_382 t_383 t_12 t_384) rfl rfl rfl (by decide +kernel) ⟨Nat.le_of_ble_eq_true rfl, Nat.le_of_ble_eq_true rfl⟩) ⟨zPr_blind, zPr_pre hP hK [] [] rfl rfl⟩ rfl rfl hl.1 rfl (lv_room (Nat.le_of_ble_eq_true rfl)) d_Re_nearer_10 ⟨Nat.le_of_ble_eq_true rfl, Nat.le_of_ble_eq_true rfl⟩).run (fun r_10 q_10 => ?_)
  obtain rfl := q_10
  refine zl_i hx hb d_Re_nearer_13 ?_
  exact W.iret hx hb hr (fun t ht hW => ⟨_, rfl, rfl, ht⟩) (fun q h => nomatch h) d_Re_nearer_14
theorem d_Re_leastFactor_0 : decode c_yRe_leastFactor 0 = .ok (.lload_n 0, 1) := by decide +kernel
theorem d_Re_leastFactor_1 : decode c_yRe_leastFactor 1 = .ok (.lconst 0, 1) := by decide +kernel
theorem d_Re_leastFactor_2 : decode c_yRe_leastFactor 2 = .ok (.lcmp, 1) := by decide +kernel
theorem d_Re_leastFactor_3 : decode c_yRe_leastFactor 3 = .ok (.ifCond .ne 24, 3) := by decide +kernel
theorem d_Re_leastFactor_6 : decode c_yRe_leastFactor 6 = .ok (.lload_n 2, 1) := by decide +kernel
theorem d_Re_leastFactor_7 : decode c_yRe_leastFactor 7 = .ok (.lconst 0, 1) := by decide +kernel
theorem d_Re_leastFactor_8 : decode c_yRe_leastFactor 8 = .ok (.lcmp, 1) := by decide +kernel
theorem d_Re_leastFactor_9 : decode c_yRe_leastFactor 9 = .ok (.ifCond .gt 15, 3) := by decide +kernel
theorem d_Re_leastFactor_12 : decode c_yRe_leastFactor 12 = .ok (.lload 4, 2) := by decide +kernel
theorem d_Re_leastFactor_14 : decode c_yRe_leastFactor 14 = .ok (.lconst 0, 1) := by decide +kernel
theorem d_Re_leastFactor_15 : decode c_yRe_leastFactor 15 = .ok (.lcmp, 1) := by decide +kernel
theorem d_Re_leastFactor_16 : decode c_yRe_leastFactor 16 = .ok (.ifCond .lt 8, 3) := by decide +kernel
theorem d_Re_leastFactor_19 : decode c_yRe_leastFactor 19 = .ok (.ldc 27, 2) := by decide +kernel
theorem d_Re_leastFactor_21 : decode c_yRe_leastFactor 21 = .ok (.goto 5, 3) := by decide +kernel
theorem d_Re_leastFactor_24 : decode c_yRe_leastFactor 24 = .ok (.ldc 28, 2) := by decide +kernel
theorem d_Re_leastFactor_26 : decode c_yRe_leastFactor 26 = .ok (.ireturn, 1) := by decide +kernel
theorem d_Re_leastFactor_27 : decode c_yRe_leastFactor 27 = .ok (.lload_n 0, 1) := by decide +kernel
theorem d_Re_leastFactor_28 : decode c_yRe_leastFactor 28 = .ok (.lconst 0, 1) := by decide +kernel
theorem d_Re_leastFactor_29 : decode c_yRe_leastFactor 29 = .ok (.lcmp, 1) := by decide +kernel
theorem d_Re_leastFactor_30 : decode c_yRe_leastFactor 30 = .ok (.ifCond .le 8, 3) := by decide +kernel
theorem d_Re_leastFactor_33 : decode c_yRe_leastFactor 33 = .ok (.lload_n 2, 1) := by decide +kernel
theorem d_Re_leastFactor_34 : decode c_yRe_leastFactor 34 = .ok (.lneg, 1) := by decide +kernel
theorem d_Re_leastFactor_35 : decode c_yRe_leastFactor 35 = .ok (.goto 6, 3) := by decide +kernel
theorem d_Re_leastFactor_38 : decode c_yRe_leastFactor 38 = .ok (.lload 4, 2) := by decide +kernel
theorem d_Re_leastFactor_40 : decode c_yRe_leastFactor 40 = .ok (.lneg, 1) := by decide +kernel
theorem d_Re_leastFactor_41 : decode c_yRe_leastFactor 41 = .ok (.lload_n 0, 1) := by decide +kernel
theorem d_Re_leastFactor_42 : decode c_yRe_leastFactor 42 = .ok (.invokestatic 29, 3) := by decide +kernel
theorem d_Re_leastFactor_45 : decode c_yRe_leastFactor 45 = .ok (.lneg, 1) := by decide +kernel
theorem d_Re_leastFactor_46 : decode c_yRe_leastFactor 46 = .ok (.invokestatic 32, 3) := by decide +kernel
theorem d_Re_leastFactor_49 : decode c_yRe_leastFactor 49 = .ok (.ireturn, 1) := by decide +kernel
set_option maxHeartbeats 4000000 in
set_option maxRecDepth 100000 in
theorem c_Reckoning_leastFactor (l : Launch) (dC : Nat → ClassId) (dI : Nat → Nat → Nat) (k lo hi : Int) (k1 : -16384 ≤ k) (k2 : k ≤ 16384) (lo1 : -1099511627776 ≤ lo) (lo2 : lo ≤ 1099511627776) (hi1 : -1099511627776 ≤ hi) (hi2 : hi ≤ 1099511627776) : Met l y_Re_leastFactor w_Re_leastFactor ({ frames := 2, cells := 0, slots := 0, locals := 44 }) (va_Pc [.long (lZ k), .long (lZ lo), .long (lZ hi)] (zPr (dC, dI) vwCl [] [])) (vp_Si (fun r => ∃ z : Int, r = iZ z ∧ lfS k lo hi z)) 0 0 (fun _ => False) := by
  refine Met.ofW (cc := c_yRe_leastFactor) (maxL := 6) (ret := (some .int)) (by decide) rfl ?_
  intro p e s m args below meth c s₁ B hml hv
  obtain ⟨rfl, hP, hK⟩ := hv
  have hx := B.exec
  have hb := B.bytes
  have hr := B.returns
  have hts0 := atoms_spec (ws := w_Re_leastFactor) B.pre
  have hts : ∀ w ∈ gT, w.before _ s = true := fun w h => hts0 w (List.mem_cons_of_mem _ h)
  have hown : s.vm.findClass R_Re = some m.cls := findClass_of_methodNamed B.named
  have hlocks := B.notSynchronized
  have hl := lv_entry ([.long (lZ k), .long (lZ lo), .long (lZ hi)]) (n := 6) (Nat.le_of_ble_eq_true rfl)
  rw [lg_entry_eq]
  generalize (lg_sl ([.long (lZ k), .long (lZ lo), .long (lZ hi)]) ++ List.replicate (6 - (lg_sl ([.long (lZ k), .long (lZ lo), .long (lZ hi)])).length) Slot.unset).toArray = ls at hl ⊢
  have hl : lv_has ls 6 [(0, .long (lZ k)), (2, .long (lZ lo)), (4, .long (lZ hi))] := hl
  refine lv_lload_n hx hb d_Re_leastFactor_0 rfl (lv_at hl 0 rfl) ?_
  refine lv_lconst (v := lZ 0) hx hb d_Re_leastFactor_1 (by decide) ?_
  refine zl_ne (tgt := 27) hx hb d_Re_leastFactor_2 d_Re_leastFactor_3 (by decide) (by omega) (by omega) (by omega) (by omega) (fun c_2 => ?_) (fun c_2 => ?_)
  · refine lv_lload_n hx hb d_Re_leastFactor_27 rfl (lv_at hl 0 rfl) ?_
    refine lv_lconst (v := lZ 0) hx hb d_Re_leastFactor_28 (by decide) ?_
    refine zl_le (tgt := 38) hx hb d_Re_leastFactor_29 d_Re_leastFactor_30 (by decide) (by omega) (by omega) (by omega) (by omega) (fun c_29 => ?_) (fun c_29 => ?_)
    · refine lv_lload hx hb d_Re_leastFactor_38 (lv_at hl 2 rfl) ?_
      refine zl_neg hx hb d_Re_leastFactor_40 ?_
      refine lv_lload_n hx hb d_Re_leastFactor_41 rfl (lv_at hl 0 rfl) ?_
      refine vp_callSl (va_runS (As := [.long (lZ (-hi)), .long (lZ k)]) (rest := []) ⟨hx, hb, hml, hown, hts⟩ (c_Math_fdl l dC dI (-hi) k (by first | omega | assumption) (by first | omega | assumption) (by first | omega | assumption) (by first | omega | assumption) (by first | omega | assumption)) (va_cwS 2 hts (gS t_372 t_373 t_12 t_374) rfl rfl rfl (by decide +kernel) ⟨Nat.le_of_ble_eq_true rfl, Nat.le_of_ble_eq_true rfl⟩) ⟨zPr_blind, zPr_pre hP hK [] [] rfl rfl⟩ rfl rfl hl.1 rfl (lv_room (Nat.le_of_ble_eq_true rfl)) d_Re_leastFactor_42 ⟨Nat.le_of_ble_eq_true rfl, Nat.le_of_ble_eq_true rfl⟩).run (fun r_42 q_42 => ?_)
      obtain ⟨k_42, rfl, q_42⟩ := q_42
      have g9 := fd_abs q_42 (by omega) (by omega) (by omega) (by omega) (by omega)
      refine zl_neg hx hb d_Re_leastFactor_45 ?_
      refine vp_callSi (va_runS (As := [.long (lZ (-k_42))]) (rest := []) ⟨hx, hb, hml, hown, hts⟩ (c_Reckoning_nearer l dC dI (-k_42) (by first | omega | assumption) (by first | omega | assumption)) (va_cwS 1 hts (gS t_375 t_376 t_14 t_377) rfl rfl rfl (by decide +kernel) ⟨Nat.le_of_ble_eq_true rfl, Nat.le_of_ble_eq_true rfl⟩) ⟨zPr_blind, zPr_pre hP hK [] [] rfl rfl⟩ rfl rfl hl.1 rfl (lv_room (Nat.le_of_ble_eq_true rfl)) d_Re_leastFactor_46 ⟨Nat.le_of_ble_eq_true rfl, Nat.le_of_ble_eq_true rfl⟩).run (fun r_46 q_46 => ?_)
      obtain rfl := q_46
      exact W.iret hx hb hr (fun t ht hW => ⟨_, rfl, ⟨_, rfl, lf_n (by omega) q_42⟩, ht⟩) (fun q h => nomatch h) d_Re_leastFactor_49
    · refine lv_lload_n hx hb d_Re_leastFactor_33 rfl (lv_at hl 1 rfl) ?_
      refine zl_neg hx hb d_Re_leastFactor_34 ?_
      refine lv_goto (tgt := 41) hx hb d_Re_leastFactor_35 (by decide) ?_
      refine lv_lload_n hx hb d_Re_leastFactor_41 rfl (lv_at hl 0 rfl) ?_
      refine vp_callSl (va_runS (As := [.long (lZ (-lo)), .long (lZ k)]) (rest := []) ⟨hx, hb, hml, hown, hts⟩ (c_Math_fdl l dC dI (-lo) k (by first | omega | assumption) (by first | omega | assumption) (by first | omega | assumption) (by first | omega | assumption) (by first | omega | assumption)) (va_cwS 2 hts (gS t_372 t_373 t_12 t_374) rfl rfl rfl (by decide +kernel) ⟨Nat.le_of_ble_eq_true rfl, Nat.le_of_ble_eq_true rfl⟩) ⟨zPr_blind, zPr_pre hP hK [] [] rfl rfl⟩ rfl rfl hl.1 rfl (lv_room (Nat.le_of_ble_eq_true rfl)) d_Re_leastFactor_42 ⟨Nat.le_of_ble_eq_true rfl, Nat.le_of_ble_eq_true rfl⟩).run (fun r_42 q_42 => ?_)
      obtain ⟨k_42, rfl, q_42⟩ := q_42
      have g9 := fd_abs q_42 (by omega) (by omega) (by omega) (by omega) (by omega)
      refine zl_neg hx hb d_Re_leastFactor_45 ?_
      refine vp_callSi (va_runS (As := [.long (lZ (-k_42))]) (rest := []) ⟨hx, hb, hml, hown, hts⟩ (c_Reckoning_nearer l dC dI (-k_42) (by first | omega | assumption) (by first | omega | assumption)) (va_cwS 1 hts (gS t_375 t_376 t_14 t_377) rfl rfl rfl (by decide +kernel) ⟨Nat.le_of_ble_eq_true rfl, Nat.le_of_ble_eq_true rfl⟩) ⟨zPr_blind, zPr_pre hP hK [] [] rfl rfl⟩ rfl rfl hl.1 rfl (lv_room (Nat.le_of_ble_eq_true rfl)) d_Re_leastFactor_46 ⟨Nat.le_of_ble_eq_true rfl, Nat.le_of_ble_eq_true rfl⟩).run (fun r_46 q_46 => ?_)
      obtain rfl := q_46
      exact W.iret hx hb hr (fun t ht hW => ⟨_, rfl, ⟨_, rfl, lf_p (by omega) q_42⟩, ht⟩) (fun q h => nomatch h) d_Re_leastFactor_49
  · refine lv_lload_n hx hb d_Re_leastFactor_6 rfl (lv_at hl 1 rfl) ?_
    refine lv_lconst (v := lZ 0) hx hb d_Re_leastFactor_7 (by decide) ?_
    refine zl_gt (tgt := 24) hx hb d_Re_leastFactor_8 d_Re_leastFactor_9 (by decide) (by omega) (by omega) (by omega) (by omega) (fun c_8 => ?_) (fun c_8 => ?_)
    · refine lv_ldc (v := iZ (1048576)) hx hb hown (hts _ t_371) d_Re_leastFactor_24 ?_
      exact W.iret hx hb hr (fun t ht hW => ⟨_, rfl, ⟨_, rfl, lf_0 (by omega) _ (Or.inr ⟨rfl, by omega⟩)⟩, ht⟩) (fun q h => nomatch h) d_Re_leastFactor_26
    · refine lv_lload hx hb d_Re_leastFactor_12 (lv_at hl 2 rfl) ?_
      refine lv_lconst (v := lZ 0) hx hb d_Re_leastFactor_14 (by decide) ?_
      refine zl_lt (tgt := 24) hx hb d_Re_leastFactor_15 d_Re_leastFactor_16 (by decide) (by omega) (by omega) (by omega) (by omega) (fun c_15 => ?_) (fun c_15 => ?_)
      · refine lv_ldc (v := iZ (1048576)) hx hb hown (hts _ t_371) d_Re_leastFactor_24 ?_
        exact W.iret hx hb hr (fun t ht hW => ⟨_, rfl, ⟨_, rfl, lf_0 (by omega) _ (Or.inr ⟨rfl, by omega⟩)⟩, ht⟩) (fun q h => nomatch h) d_Re_leastFactor_26
      · refine lv_ldc (v := iZ (-1048576)) hx hb hown (hts _ t_370) d_Re_leastFactor_19 ?_
        refine lv_goto (tgt := 26) hx hb d_Re_leastFactor_21 (by decide) ?_
        exact W.iret hx hb hr (fun t ht hW => ⟨_, rfl, ⟨_, rfl, lf_0 (by omega) _ (Or.inl ⟨rfl, by omega⟩)⟩, ht⟩) (fun q h => nomatch h) d_Re_leastFactor_26
theorem d_Re_greatestFactor_0 : decode c_yRe_greatestFactor 0 = .ok (.lload_n 0, 1) := by decide +kernel
theorem d_Re_greatestFactor_1 : decode c_yRe_greatestFactor 1 = .ok (.lconst 0, 1) := by decide +kernel
theorem d_Re_greatestFactor_2 : decode c_yRe_greatestFactor 2 = .ok (.lcmp, 1) := by decide +kernel
theorem d_Re_greatestFactor_3 : decode c_yRe_greatestFactor 3 = .ok (.ifCond .ne 24, 3) := by decide +kernel
theorem d_Re_greatestFactor_6 : decode c_yRe_greatestFactor 6 = .ok (.lload_n 2, 1) := by decide +kernel
theorem d_Re_greatestFactor_7 : decode c_yRe_greatestFactor 7 = .ok (.lconst 0, 1) := by decide +kernel
theorem d_Re_greatestFactor_8 : decode c_yRe_greatestFactor 8 = .ok (.lcmp, 1) := by decide +kernel
theorem d_Re_greatestFactor_9 : decode c_yRe_greatestFactor 9 = .ok (.ifCond .gt 15, 3) := by decide +kernel
theorem d_Re_greatestFactor_12 : decode c_yRe_greatestFactor 12 = .ok (.lload 4, 2) := by decide +kernel
theorem d_Re_greatestFactor_14 : decode c_yRe_greatestFactor 14 = .ok (.lconst 0, 1) := by decide +kernel
theorem d_Re_greatestFactor_15 : decode c_yRe_greatestFactor 15 = .ok (.lcmp, 1) := by decide +kernel
theorem d_Re_greatestFactor_16 : decode c_yRe_greatestFactor 16 = .ok (.ifCond .lt 8, 3) := by decide +kernel
theorem d_Re_greatestFactor_19 : decode c_yRe_greatestFactor 19 = .ok (.ldc 28, 2) := by decide +kernel
theorem d_Re_greatestFactor_21 : decode c_yRe_greatestFactor 21 = .ok (.goto 5, 3) := by decide +kernel
theorem d_Re_greatestFactor_24 : decode c_yRe_greatestFactor 24 = .ok (.ldc 27, 2) := by decide +kernel
theorem d_Re_greatestFactor_26 : decode c_yRe_greatestFactor 26 = .ok (.ireturn, 1) := by decide +kernel
theorem d_Re_greatestFactor_27 : decode c_yRe_greatestFactor 27 = .ok (.lload_n 0, 1) := by decide +kernel
theorem d_Re_greatestFactor_28 : decode c_yRe_greatestFactor 28 = .ok (.lconst 0, 1) := by decide +kernel
theorem d_Re_greatestFactor_29 : decode c_yRe_greatestFactor 29 = .ok (.lcmp, 1) := by decide +kernel
theorem d_Re_greatestFactor_30 : decode c_yRe_greatestFactor 30 = .ok (.ifCond .le 8, 3) := by decide +kernel
theorem d_Re_greatestFactor_33 : decode c_yRe_greatestFactor 33 = .ok (.lload 4, 2) := by decide +kernel
theorem d_Re_greatestFactor_35 : decode c_yRe_greatestFactor 35 = .ok (.goto 4, 3) := by decide +kernel
theorem d_Re_greatestFactor_38 : decode c_yRe_greatestFactor 38 = .ok (.lload_n 2, 1) := by decide +kernel
theorem d_Re_greatestFactor_39 : decode c_yRe_greatestFactor 39 = .ok (.lload_n 0, 1) := by decide +kernel
theorem d_Re_greatestFactor_40 : decode c_yRe_greatestFactor 40 = .ok (.invokestatic 29, 3) := by decide +kernel
theorem d_Re_greatestFactor_43 : decode c_yRe_greatestFactor 43 = .ok (.invokestatic 32, 3) := by decide +kernel
theorem d_Re_greatestFactor_46 : decode c_yRe_greatestFactor 46 = .ok (.ireturn, 1) := by decide +kernel
set_option maxHeartbeats 4000000 in
set_option maxRecDepth 100000 in
theorem c_Reckoning_greatestFactor (l : Launch) (dC : Nat → ClassId) (dI : Nat → Nat → Nat) (k lo hi : Int) (k1 : -16384 ≤ k) (k2 : k ≤ 16384) (lo1 : -1099511627776 ≤ lo) (lo2 : lo ≤ 1099511627776) (hi1 : -1099511627776 ≤ hi) (hi2 : hi ≤ 1099511627776) : Met l y_Re_greatestFactor w_Re_greatestFactor ({ frames := 2, cells := 0, slots := 0, locals := 44 }) (va_Pc [.long (lZ k), .long (lZ lo), .long (lZ hi)] (zPr (dC, dI) vwCl [] [])) (vp_Si (fun r => ∃ z : Int, r = iZ z ∧ gfS k lo hi z)) 0 0 (fun _ => False) := by
  refine Met.ofW (cc := c_yRe_greatestFactor) (maxL := 6) (ret := (some .int)) (by decide) rfl ?_
  intro p e s m args below meth c s₁ B hml hv
  obtain ⟨rfl, hP, hK⟩ := hv
  have hx := B.exec
  have hb := B.bytes
  have hr := B.returns
  have hts0 := atoms_spec (ws := w_Re_greatestFactor) B.pre
  have hts : ∀ w ∈ gT, w.before _ s = true := fun w h => hts0 w (List.mem_cons_of_mem _ h)
  have hown : s.vm.findClass R_Re = some m.cls := findClass_of_methodNamed B.named
  have hlocks := B.notSynchronized
  have hl := lv_entry ([.long (lZ k), .long (lZ lo), .long (lZ hi)]) (n := 6) (Nat.le_of_ble_eq_true rfl)
  rw [lg_entry_eq]
  generalize (lg_sl ([.long (lZ k), .long (lZ lo), .long (lZ hi)]) ++ List.replicate (6 - (lg_sl ([.long (lZ k), .long (lZ lo), .long (lZ hi)])).length) Slot.unset).toArray = ls at hl ⊢
  have hl : lv_has ls 6 [(0, .long (lZ k)), (2, .long (lZ lo)), (4, .long (lZ hi))] := hl
  refine lv_lload_n hx hb d_Re_greatestFactor_0 rfl (lv_at hl 0 rfl) ?_
  refine lv_lconst (v := lZ 0) hx hb d_Re_greatestFactor_1 (by decide) ?_
  refine zl_ne (tgt := 27) hx hb d_Re_greatestFactor_2 d_Re_greatestFactor_3 (by decide) (by omega) (by omega) (by omega) (by omega) (fun c_2 => ?_) (fun c_2 => ?_)
  · refine lv_lload_n hx hb d_Re_greatestFactor_27 rfl (lv_at hl 0 rfl) ?_
    refine lv_lconst (v := lZ 0) hx hb d_Re_greatestFactor_28 (by decide) ?_
    refine zl_le (tgt := 38) hx hb d_Re_greatestFactor_29 d_Re_greatestFactor_30 (by decide) (by omega) (by omega) (by omega) (by omega) (fun c_29 => ?_) (fun c_29 => ?_)
    · refine lv_lload_n hx hb d_Re_greatestFactor_38 rfl (lv_at hl 1 rfl) ?_
      refine lv_lload_n hx hb d_Re_greatestFactor_39 rfl (lv_at hl 0 rfl) ?_
      refine vp_callSl (va_runS (As := [.long (lZ lo), .long (lZ k)]) (rest := []) ⟨hx, hb, hml, hown, hts⟩ (c_Math_fdl l dC dI lo k (by first | omega | assumption) (by first | omega | assumption) (by first | omega | assumption) (by first | omega | assumption) (by first | omega | assumption)) (va_cwS 2 hts (gS t_372 t_373 t_12 t_374) rfl rfl rfl (by decide +kernel) ⟨Nat.le_of_ble_eq_true rfl, Nat.le_of_ble_eq_true rfl⟩) ⟨zPr_blind, zPr_pre hP hK [] [] rfl rfl⟩ rfl rfl hl.1 rfl (lv_room (Nat.le_of_ble_eq_true rfl)) d_Re_greatestFactor_40 ⟨Nat.le_of_ble_eq_true rfl, Nat.le_of_ble_eq_true rfl⟩).run (fun r_40 q_40 => ?_)
      obtain ⟨k_40, rfl, q_40⟩ := q_40
      have g9 := fd_abs q_40 (by omega) (by omega) (by omega) (by omega) (by omega)
      refine vp_callSi (va_runS (As := [.long (lZ k_40)]) (rest := []) ⟨hx, hb, hml, hown, hts⟩ (c_Reckoning_nearer l dC dI k_40 (by first | omega | assumption) (by first | omega | assumption)) (va_cwS 1 hts (gS t_375 t_376 t_14 t_377) rfl rfl rfl (by decide +kernel) ⟨Nat.le_of_ble_eq_true rfl, Nat.le_of_ble_eq_true rfl⟩) ⟨zPr_blind, zPr_pre hP hK [] [] rfl rfl⟩ rfl rfl hl.1 rfl (lv_room (Nat.le_of_ble_eq_true rfl)) d_Re_greatestFactor_43 ⟨Nat.le_of_ble_eq_true rfl, Nat.le_of_ble_eq_true rfl⟩).run (fun r_43 q_43 => ?_)
      obtain rfl := q_43
      exact W.iret hx hb hr (fun t ht hW => ⟨_, rfl, ⟨_, rfl, gf_n (by omega) q_40⟩, ht⟩) (fun q h => nomatch h) d_Re_greatestFactor_46
    · refine lv_lload hx hb d_Re_greatestFactor_33 (lv_at hl 2 rfl) ?_
      refine lv_goto (tgt := 39) hx hb d_Re_greatestFactor_35 (by decide) ?_
      refine lv_lload_n hx hb d_Re_greatestFactor_39 rfl (lv_at hl 0 rfl) ?_
      refine vp_callSl (va_runS (As := [.long (lZ hi), .long (lZ k)]) (rest := []) ⟨hx, hb, hml, hown, hts⟩ (c_Math_fdl l dC dI hi k (by first | omega | assumption) (by first | omega | assumption) (by first | omega | assumption) (by first | omega | assumption) (by first | omega | assumption)) (va_cwS 2 hts (gS t_372 t_373 t_12 t_374) rfl rfl rfl (by decide +kernel) ⟨Nat.le_of_ble_eq_true rfl, Nat.le_of_ble_eq_true rfl⟩) ⟨zPr_blind, zPr_pre hP hK [] [] rfl rfl⟩ rfl rfl hl.1 rfl (lv_room (Nat.le_of_ble_eq_true rfl)) d_Re_greatestFactor_40 ⟨Nat.le_of_ble_eq_true rfl, Nat.le_of_ble_eq_true rfl⟩).run (fun r_40 q_40 => ?_)
      obtain ⟨k_40, rfl, q_40⟩ := q_40
      have g9 := fd_abs q_40 (by omega) (by omega) (by omega) (by omega) (by omega)
      refine vp_callSi (va_runS (As := [.long (lZ k_40)]) (rest := []) ⟨hx, hb, hml, hown, hts⟩ (c_Reckoning_nearer l dC dI k_40 (by first | omega | assumption) (by first | omega | assumption)) (va_cwS 1 hts (gS t_375 t_376 t_14 t_377) rfl rfl rfl (by decide +kernel) ⟨Nat.le_of_ble_eq_true rfl, Nat.le_of_ble_eq_true rfl⟩) ⟨zPr_blind, zPr_pre hP hK [] [] rfl rfl⟩ rfl rfl hl.1 rfl (lv_room (Nat.le_of_ble_eq_true rfl)) d_Re_greatestFactor_43 ⟨Nat.le_of_ble_eq_true rfl, Nat.le_of_ble_eq_true rfl⟩).run (fun r_43 q_43 => ?_)
      obtain rfl := q_43
      exact W.iret hx hb hr (fun t ht hW => ⟨_, rfl, ⟨_, rfl, gf_p (by omega) q_40⟩, ht⟩) (fun q h => nomatch h) d_Re_greatestFactor_46
  · refine lv_lload_n hx hb d_Re_greatestFactor_6 rfl (lv_at hl 1 rfl) ?_
    refine lv_lconst (v := lZ 0) hx hb d_Re_greatestFactor_7 (by decide) ?_
    refine zl_gt (tgt := 24) hx hb d_Re_greatestFactor_8 d_Re_greatestFactor_9 (by decide) (by omega) (by omega) (by omega) (by omega) (fun c_8 => ?_) (fun c_8 => ?_)
    · refine lv_ldc (v := iZ (-1048576)) hx hb hown (hts _ t_370) d_Re_greatestFactor_24 ?_
      exact W.iret hx hb hr (fun t ht hW => ⟨_, rfl, ⟨_, rfl, gf_0 (by omega) _ (Or.inr ⟨rfl, by omega⟩)⟩, ht⟩) (fun q h => nomatch h) d_Re_greatestFactor_26
    · refine lv_lload hx hb d_Re_greatestFactor_12 (lv_at hl 2 rfl) ?_
      refine lv_lconst (v := lZ 0) hx hb d_Re_greatestFactor_14 (by decide) ?_
      refine zl_lt (tgt := 24) hx hb d_Re_greatestFactor_15 d_Re_greatestFactor_16 (by decide) (by omega) (by omega) (by omega) (by omega) (fun c_15 => ?_) (fun c_15 => ?_)
      · refine lv_ldc (v := iZ (-1048576)) hx hb hown (hts _ t_370) d_Re_greatestFactor_24 ?_
        exact W.iret hx hb hr (fun t ht hW => ⟨_, rfl, ⟨_, rfl, gf_0 (by omega) _ (Or.inr ⟨rfl, by omega⟩)⟩, ht⟩) (fun q h => nomatch h) d_Re_greatestFactor_26
      · refine lv_ldc (v := iZ (1048576)) hx hb hown (hts _ t_371) d_Re_greatestFactor_19 ?_
        refine lv_goto (tgt := 26) hx hb d_Re_greatestFactor_21 (by decide) ?_
        exact W.iret hx hb hr (fun t ht hW => ⟨_, rfl, ⟨_, rfl, gf_0 (by omega) _ (Or.inl ⟨rfl, by omega⟩)⟩, ht⟩) (fun q h => nomatch h) d_Re_greatestFactor_26
