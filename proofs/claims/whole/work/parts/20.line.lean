/-! a thick line: near a point of the straight line; in a row that is an interval -/
def lnB (dx dy t ex ey : Int) : Prop :=
  if dx * ex + dy * ey ≤ 0 then 4 * (ex * ex + ey * ey) ≤ t * t
  else if dx * ex + dy * ey ≥ dx * dx + dy * dy then 4 * ((ex - dx) * (ex - dx) + (ey - dy) * (ey - dy)) ≤ t * t
  else 4 * ((dx * ey - dy * ex) * (dx * ey - dy * ex)) ≤ t * t * (dx * dx + dy * dy)
def lnW (dx dy t ex ey : Int) : Prop := ∃ n M : Int, 0 < M ∧ 0 ≤ n ∧ n ≤ M ∧ 4 * ((M * ex - n * dx) * (M * ex - n * dx) + (M * ey - n * dy) * (M * ey - n * dy)) ≤ t * t * (M * M)
theorem lw_A {dx dy t ex ey : Int} (h : 4 * (ex * ex + ey * ey) ≤ t * t) : lnW dx dy t ex ey :=
  ⟨0, 1, by decide, by decide, by decide, by
    have e : 4 * ((1 * ex - 0 * dx) * (1 * ex - 0 * dx) + (1 * ey - 0 * dy) * (1 * ey - 0 * dy)) = 4 * (ex * ex + ey * ey) := by grind
    have e2 : t * t * (1 * 1) = t * t := by grind
    rw [e, e2]; exact h⟩
theorem lw_C {dx dy t ex ey : Int} (h : 4 * ((ex - dx) * (ex - dx) + (ey - dy) * (ey - dy)) ≤ t * t) : lnW dx dy t ex ey :=
  ⟨1, 1, by decide, by decide, by decide, by
    have e : 4 * ((1 * ex - 1 * dx) * (1 * ex - 1 * dx) + (1 * ey - 1 * dy) * (1 * ey - 1 * dy)) = 4 * ((ex - dx) * (ex - dx) + (ey - dy) * (ey - dy)) := by grind
    have e2 : t * t * (1 * 1) = t * t := by grind
    rw [e, e2]; exact h⟩
theorem lw_S {dx dy t ex ey : Int} (h0 : 0 < dx * dx + dy * dy) (h1 : 0 ≤ dx * ex + dy * ey) (h2 : dx * ex + dy * ey ≤ dx * dx + dy * dy) (h : 4 * ((dx * ey - dy * ex) * (dx * ey - dy * ex)) ≤ t * t * (dx * dx + dy * dy)) : lnW dx dy t ex ey := by
  refine ⟨dx * ex + dy * ey, dx * dx + dy * dy, h0, h1, h2, ?_⟩
  generalize hL : dx * dx + dy * dy = L2 at *
  have e : 4 * ((L2 * ex - (dx * ex + dy * ey) * dx) * (L2 * ex - (dx * ex + dy * ey) * dx) + (L2 * ey - (dx * ex + dy * ey) * dy) * (L2 * ey - (dx * ex + dy * ey) * dy)) = 4 * ((dx * ey - dy * ex) * (dx * ey - dy * ex)) * L2 := by
    subst hL; grind
  have e2 : t * t * (L2 * L2) = t * t * L2 * L2 := by grind
  rw [e, e2]
  exact Int.mul_le_mul_of_nonneg_right h (by omega)
theorem lw_conv {dx dy t x1 x x2 ey : Int} (h1 : x1 ≤ x) (h2 : x ≤ x2) (w1 : lnW dx dy t x1 ey) (w2 : lnW dx dy t x2 ey) : lnW dx dy t x ey := by
  by_cases e : x1 = x2
  · have : x = x1 := by omega
    rw [this]; exact w1
  obtain ⟨n1, M1, a1, b1, c1, d1⟩ := w1
  obtain ⟨n2, M2, a2, b2, c2, d2⟩ := w2
  obtain ⟨al, hal⟩ : ∃ al, al = x2 - x := ⟨_, rfl⟩
  obtain ⟨be, hbe⟩ : ∃ be, be = x - x1 := ⟨_, rfl⟩
  have al0 : 0 ≤ al := by omega
  have be0 : 0 ≤ be := by omega
  have N0 : 0 < al + be := by omega
  have hx2 : x2 = x + al := by omega
  have hx1 : x1 = x - be := by omega
  subst hx2; subst hx1
  have M12 : 0 < M1 * M2 := Int.mul_pos a1 a2
  refine ⟨al * (n1 * M2) + be * (n2 * M1), (al + be) * (M1 * M2), Int.mul_pos N0 M12, ?_, ?_, ?_⟩
  · exact Int.add_nonneg (Int.mul_nonneg al0 (Int.mul_nonneg b1 (by omega))) (Int.mul_nonneg be0 (Int.mul_nonneg b2 (by omega)))
  · have p1 : n1 * M2 ≤ M1 * M2 := Int.mul_le_mul_of_nonneg_right c1 (by omega)
    have p2 : n2 * M1 ≤ M1 * M2 := by rw [Int.mul_comm M1 M2]; exact Int.mul_le_mul_of_nonneg_right c2 (by omega)
    have q1 := Int.mul_le_mul_of_nonneg_left p1 al0
    have q2 := Int.mul_le_mul_of_nonneg_left p2 be0
    have e9 : (al + be) * (M1 * M2) = al * (M1 * M2) + be * (M1 * M2) := Int.add_mul ..
    omega
  · generalize hA1 : M2 * (M1 * (x - be) - n1 * dx) = A1
    generalize hB1 : M2 * (M1 * ey - n1 * dy) = B1
    generalize hA2 : M1 * (M2 * (x + al) - n2 * dx) = A2
    generalize hB2 : M1 * (M2 * ey - n2 * dy) = B2
    have f1 : (al + be) * (M1 * M2) * x - (al * (n1 * M2) + be * (n2 * M1)) * dx = al * A1 + be * A2 := by subst hA1; subst hA2; grind
    have f2 : (al + be) * (M1 * M2) * ey - (al * (n1 * M2) + be * (n2 * M1)) * dy = al * B1 + be * B2 := by subst hB1; subst hB2; grind
    rw [f1, f2]
    generalize hT : t * t * (M1 * M2 * (M1 * M2)) = T
    have g1 : 4 * (A1 * A1 + B1 * B1) ≤ T := by
      have z := Int.mul_le_mul_of_nonneg_right d1 (sq_nn M2)
      have e1 : 4 * ((M1 * (x - be) - n1 * dx) * (M1 * (x - be) - n1 * dx) + (M1 * ey - n1 * dy) * (M1 * ey - n1 * dy)) * (M2 * M2) = 4 * (A1 * A1 + B1 * B1) := by subst hA1; subst hB1; grind
      have e2 : t * t * (M1 * M1) * (M2 * M2) = T := by subst hT; grind
      rw [e1, e2] at z; exact z
    have g2 : 4 * (A2 * A2 + B2 * B2) ≤ T := by
      have z := Int.mul_le_mul_of_nonneg_right d2 (sq_nn M1)
      have e1 : 4 * ((M2 * (x + al) - n2 * dx) * (M2 * (x + al) - n2 * dx) + (M2 * ey - n2 * dy) * (M2 * ey - n2 * dy)) * (M1 * M1) = 4 * (A2 * A2 + B2 * B2) := by subst hA2; subst hB2; grind
      have e2 : t * t * (M2 * M2) * (M1 * M1) = T := by subst hT; grind
      rw [e1, e2] at z; exact z
    have e3 : t * t * ((al + be) * (M1 * M2) * ((al + be) * (M1 * M2))) = (al + be) * (al * T + be * T) := by subst hT; grind
    rw [e3]
    have k1 : al * (4 * (A1 * A1 + B1 * B1)) ≤ al * T := Int.mul_le_mul_of_nonneg_left g1 al0
    have k2 : be * (4 * (A2 * A2 + B2 * B2)) ≤ be * T := Int.mul_le_mul_of_nonneg_left g2 be0
    have k3 : (al + be) * (al * (4 * (A1 * A1 + B1 * B1)) + be * (4 * (A2 * A2 + B2 * B2))) ≤ (al + be) * (al * T + be * T) := Int.mul_le_mul_of_nonneg_left (by omega) (by omega)
    have k4 : 0 ≤ al * be * ((A1 - A2) * (A1 - A2) + (B1 - B2) * (B1 - B2)) := Int.mul_nonneg (Int.mul_nonneg al0 be0) (Int.add_nonneg (sq_nn _) (sq_nn _))
    have k5 : 4 * ((al * A1 + be * A2) * (al * A1 + be * A2) + (al * B1 + be * B2) * (al * B1 + be * B2)) + 4 * (al * be * ((A1 - A2) * (A1 - A2) + (B1 - B2) * (B1 - B2))) = (al + be) * (al * (4 * (A1 * A1 + B1 * B1)) + be * (4 * (A2 * A2 + B2 * B2))) := by grind
    omega
theorem lw_ref {dx dy t ex ey : Int} (h : lnW dx dy t ex ey) : lnB dx dy t ex ey := by
  obtain ⟨n, M, M0, n0, n1, d⟩ := h
  have MM : 0 < M * M := Int.mul_pos M0 M0
  unfold lnB
  split
  · rename_i q
    have e : 4 * ((M * ex - n * dx) * (M * ex - n * dx) + (M * ey - n * dy) * (M * ey - n * dy)) = 4 * (ex * ex + ey * ey) * (M * M) + 4 * (2 * (M * n) * (-(dx * ex + dy * ey)) + n * n * (dx * dx + dy * dy)) := by grind
    have p1 : 0 ≤ 2 * (M * n) * (-(dx * ex + dy * ey)) := Int.mul_nonneg (Int.mul_nonneg (by decide) (Int.mul_nonneg (by omega) n0)) (by omega)
    have p2 : 0 ≤ n * n * (dx * dx + dy * dy) := Int.mul_nonneg (sq_nn _) (Int.add_nonneg (sq_nn _) (sq_nn _))
    exact Int.le_of_mul_le_mul_right (show 4 * (ex * ex + ey * ey) * (M * M) ≤ t * t * (M * M) by omega) MM
  · split
    · rename_i q1 q
      have e : 4 * ((M * ex - n * dx) * (M * ex - n * dx) + (M * ey - n * dy) * (M * ey - n * dy)) = 4 * ((ex - dx) * (ex - dx) + (ey - dy) * (ey - dy)) * (M * M) + 4 * (2 * (M * (M - n)) * (dx * ex + dy * ey - (dx * dx + dy * dy)) + (M - n) * (M - n) * (dx * dx + dy * dy)) := by grind
      have p1 : 0 ≤ 2 * (M * (M - n)) * (dx * ex + dy * ey - (dx * dx + dy * dy)) := Int.mul_nonneg (Int.mul_nonneg (by decide) (Int.mul_nonneg (by omega) (by omega))) (by omega)
      have p2 : 0 ≤ (M - n) * (M - n) * (dx * dx + dy * dy) := Int.mul_nonneg (sq_nn _) (Int.add_nonneg (sq_nn _) (sq_nn _))
      exact Int.le_of_mul_le_mul_right (show 4 * ((ex - dx) * (ex - dx) + (ey - dy) * (ey - dy)) * (M * M) ≤ t * t * (M * M) by omega) MM
    · have L0 : 0 ≤ dx * dx + dy * dy := Int.add_nonneg (sq_nn _) (sq_nn _)
      have z := Int.mul_le_mul_of_nonneg_right d L0
      have e : 4 * ((M * ex - n * dx) * (M * ex - n * dx) + (M * ey - n * dy) * (M * ey - n * dy)) * (dx * dx + dy * dy) = 4 * ((dx * ey - dy * ex) * (dx * ey - dy * ex)) * (M * M) + 4 * ((M * (dx * ex + dy * ey) - n * (dx * dx + dy * dy)) * (M * (dx * ex + dy * ey) - n * (dx * dx + dy * dy))) := by grind
      have e2 : t * t * (M * M) * (dx * dx + dy * dy) = t * t * (dx * dx + dy * dy) * (M * M) := by grind
      have p1 := sq_nn (M * (dx * ex + dy * ey) - n * (dx * dx + dy * dy))
      rw [e, e2] at z
      exact Int.le_of_mul_le_mul_right (show 4 * ((dx * ey - dy * ex) * (dx * ey - dy * ex)) * (M * M) ≤ t * t * (dx * dx + dy * dy) * (M * M) by omega) MM
/-! the stroke: three intervals in a row, and what lies from the leftmost to the rightmost -/
theorem mul_ab {a b A B : Int} (a1 : -A ≤ a) (a2 : a ≤ A) (b1 : -B ≤ b) (b2 : b ≤ B) : -(A * B) ≤ a * b ∧ a * b ≤ A * B := by
  have h : (a * b).natAbs ≤ (A * B).natAbs := by
    rw [Int.natAbs_mul, Int.natAbs_mul]
    exact Nat.mul_le_mul (by omega) (by omega)
  have hAB : 0 ≤ A * B := Int.mul_nonneg (by omega) (by omega)
  omega
theorem root_abs {g n c : Int} (g0 : 0 ≤ g) (g1 : g * g ≤ n) (g2 : n < (g + 1) * (g + 1)) : (-g ≤ c ∧ c ≤ g) ↔ c * c ≤ n := by
  constructor
  · rintro ⟨a, b⟩
    refine Int.le_trans ?_ g1
    by_cases s : 0 ≤ c
    · exact sq_le s b
    · have := sq_le (a := -c) (b := g) (by omega) (by omega)
      rw [Int.neg_mul_neg] at this; exact this
  · intro q
    have z := Int.lt_of_le_of_lt q g2
    by_cases s : 0 ≤ c
    · have := sq_lt s (Int.le_refl _) z (by omega); omega
    · have := sq_lt (a := -c) (b := g + 1) (by omega) (Int.le_refl _) (by rw [Int.neg_mul_neg]; exact z) (by omega); omega
theorem end_iff {t aw z x px : Int} (z0 : 0 ≤ z) (z1 : z * z ≤ (t * t - 4 * aw * aw) / 4) (z2 : (t * t - 4 * aw * aw) / 4 < (z + 1) * (z + 1)) : (x - z ≤ px ∧ px ≤ x + z) ↔ 4 * ((px - x) * (px - x) + aw * aw) ≤ t * t := by
  have a := root_abs (c := px - x) z0 z1 z2
  have e : 4 * aw * aw = 4 * (aw * aw) := by grind
  constructor
  · intro q; have := a.mp (by omega); omega
  · intro q; have := a.mpr (by omega); omega
theorem end_no {t aw x px : Int} (h : t * t - 4 * aw * aw < 0) : ¬ 4 * ((px - x) * (px - x) + aw * aw) ≤ t * t := by
  have e : 4 * aw * aw = 4 * (aw * aw) := by grind
  have := sq_nn (px - x)
  omega
theorem fs_iff {k lo hi f g e : Int} (hf : lfS k lo hi f) (hg : gfS k lo hi g) (e1 : -1048576 < e) (e2 : e < 1048576) : (f ≤ e ∧ e ≤ g) ↔ (lo ≤ e * k ∧ e * k ≤ hi) := by
  rw [hf.2.2 e e1 e2, hg.2.2 e e1 e2]
  rcases Int.lt_trichotomy k 0 with z | z | z
  · exact ⟨fun q => ⟨q.2.2.1 z, q.1.2.1 z⟩, fun q => ⟨⟨fun z2 => by omega, fun _ => q.2, fun z2 => by omega⟩, ⟨fun z2 => by omega, fun _ => q.1, fun z2 => by omega⟩⟩⟩
  · subst z
    rw [Int.mul_zero]
    exact ⟨fun q => q.1.2.2 rfl, fun q => ⟨⟨fun z2 => by omega, fun z2 => by omega, fun _ => q⟩, ⟨fun z2 => by omega, fun z2 => by omega, fun _ => q⟩⟩⟩
  · exact ⟨fun q => ⟨q.1.1 z, q.2.1 z⟩, fun q => ⟨⟨fun _ => q.1, fun z2 => by omega, fun z2 => by omega⟩, ⟨fun _ => q.2, fun z2 => by omega, fun z2 => by omega⟩⟩⟩
theorem fs_in {k lo hi f g : Int} (hf : lfS k lo hi f) (hg : gfS k lo hi g) (hk : k ≠ 0) (hb : (0 < k → -(30000 * k) ≤ lo ∧ hi ≤ 30000 * k) ∧ (k < 0 → 30000 * k ≤ lo ∧ hi ≤ -(30000 * k))) : -500000 < f ∧ g < 500000 := by
  have a := hf.2.2 (-500000) (by decide) (by decide)
  have b := hg.2.2 500000 (by decide) (by decide)
  rcases Int.lt_or_gt_of_ne hk with z | z
  · have c := hb.2 z
    constructor
    · rcases Int.lt_or_le (-500000) f with q | q
      · exact q
      · have := (a.mp q).2.1 z; omega
    · rcases Int.lt_or_le g 500000 with q | q
      · exact q
      · have := (b.mp q).2.1 z; omega
  · have c := hb.1 z
    constructor
    · rcases Int.lt_or_le (-500000) f with q | q
      · exact q
      · have := (a.mp q).1 z; omega
    · rcases Int.lt_or_le g 500000 with q | q
      · exact q
      · have := (b.mp q).1 z; omega
/-- what widenBySide has found -/
def sdS (dx dy L2 gc aw f l : Int) : Prop := ∃ f1 f2 g1 g2 : Int, lfS dx (-aw * dy) (-aw * dy + L2) f1 ∧ lfS dy (aw * dx - gc) (aw * dx + gc) f2 ∧ gfS dx (-aw * dy) (-aw * dy + L2) g1 ∧ gfS dy (aw * dx - gc) (aw * dx + gc) g2 ∧ f = max f1 f2 ∧ l = min g1 g2
theorem sd_in {dx dy t gc aw f l : Int} (t1 : 1 ≤ t) (t2 : t ≤ 200) (dx1 : -8192 ≤ dx) (dx2 : dx ≤ 8192) (dy1 : -8192 ≤ dy) (dy2 : dy ≤ 8192) (aw1 : -9000 ≤ aw) (aw2 : aw ≤ 9000) (h0 : 0 < dx * dx + dy * dy) (g0 : 0 ≤ gc) (g1 : gc * gc ≤ t * t * (dx * dx + dy * dy) / 4) (h : sdS dx dy (dx * dx + dy * dy) gc aw f l) : -500000 < f ∧ l < 500000 := by
  obtain ⟨f1, f2, e1, e2, a1, a2, a3, a4, rfl, rfl⟩ := h
  obtain ⟨X, hX⟩ : ∃ X : Int, X = dx.natAbs := ⟨_, rfl⟩
  obtain ⟨Y, hY⟩ : ∃ Y : Int, Y = dy.natAbs := ⟨_, rfl⟩
  have X2 : dx * dx = X * X := by rw [hX, Int.natAbs_mul_self']
  have Y2 : dy * dy = Y * Y := by rw [hY, Int.natAbs_mul_self']
  by_cases c : Y ≤ X
  · have k0 : dx ≠ 0 := by
      intro z
      have x0 : X = 0 := by omega
      have y0 : Y = 0 := by omega
      rw [X2, Y2, x0, y0] at h0; exact absurd h0 (by decide)
    have b1 := mul_ab (a := -aw) (b := dy) (A := 9000) (B := X) (by omega) (by omega) (by omega) (by omega)
    have b2 : X * X ≤ 8192 * X := Int.mul_le_mul_of_nonneg_right (by omega) (by omega)
    have b3 : Y * Y ≤ X * X := sq_le (by omega) c
    have := fs_in a1 a3 k0 ⟨fun z => by rw [X2, Y2]; omega, fun z => by rw [X2, Y2]; omega⟩
    omega
  · have k0 : dy ≠ 0 := by omega
    have b1 := mul_ab (a := aw) (b := dx) (A := 9000) (B := Y) (by omega) (by omega) (by omega) (by omega)
    have b3 : X * X ≤ Y * Y := sq_le (by omega) (by omega)
    have b4 : t * t ≤ 200 * 200 := sq_le (by omega) t2
    have b5 : t * t * (dx * dx + dy * dy) ≤ 200 * 200 * (Y * Y + Y * Y) := Int.mul_le_mul b4 (by rw [X2, Y2]; omega) (by rw [X2, Y2]; have := sq_nn X; have := sq_nn Y; omega) (by decide)
    have b6 : gc ≤ 142 * Y := by
      have e : (142 * Y + 1) * (142 * Y + 1) = 20164 * (Y * Y) + 284 * Y + 1 := by grind
      have := sq_lt g0 g1 (show _ < (142 * Y + 1) * (142 * Y + 1) by rw [e]; omega) (by omega)
      omega
    have := fs_in a2 a4 k0 ⟨fun z => by omega, fun z => by omega⟩
    omega
theorem sd_iff {dx dy t gc aw f l e : Int} (g0 : 0 ≤ gc) (g1 : gc * gc ≤ t * t * (dx * dx + dy * dy) / 4) (g2 : t * t * (dx * dx + dy * dy) / 4 < (gc + 1) * (gc + 1)) (h : sdS dx dy (dx * dx + dy * dy) gc aw f l) (e1 : -1048576 < e) (e2 : e < 1048576) :
    (f ≤ e ∧ e ≤ l) ↔ (0 ≤ dx * e + dy * aw ∧ dx * e + dy * aw ≤ dx * dx + dy * dy ∧ 4 * ((dx * aw - dy * e) * (dx * aw - dy * e)) ≤ t * t * (dx * dx + dy * dy)) := by
  obtain ⟨f1, f2, l1, l2, a1, a2, a3, a4, rfl, rfl⟩ := h
  have b1 := fs_iff a1 a3 e1 e2
  have b2 := fs_iff a2 a4 e1 e2
  have b3 := root_abs (c := dx * aw - dy * e) g0 g1 g2
  have q1 : dx * e = e * dx := Int.mul_comm ..
  have q2 : dy * e = e * dy := Int.mul_comm ..
  have q3 : -aw * dy = -(dy * aw) := by grind
  have q4 : aw * dx = dx * aw := Int.mul_comm ..
  rw [q3] at b1
  rw [q4] at b2
  rw [q2] at b3 ⊢
  rw [q1]
  constructor
  · intro z
    have z1 := b1.mp (by omega)
    have z2 := b2.mp (by omega)
    have z3 := b3.mp (by omega)
    exact ⟨by omega, by omega, by omega⟩
  · rintro ⟨z1, z2, z3⟩
    have y1 := b1.mpr (by omega)
    have y2 := b3.mpr (by omega)
    have y3 := b2.mpr (by omega)
    omega
/-- L and R are the ends of what V holds -/
def hvS (V : Int → Prop) (L R : Int) : Prop := (L = 1048576 ∧ R = -1048576 ∧ ∀ p, ¬ V p) ∨ (V L ∧ V R ∧ L ≤ R ∧ -1048576 < L ∧ R < 1048576 ∧ ∀ p, V p → L ≤ p ∧ p ≤ R)
theorem hv_0 : hvS (fun _ => False) 1048576 (-1048576) := Or.inl ⟨rfl, rfl, fun _ h => h⟩
theorem hv_add {V V2 : Int → Prop} {L R x1 x2 : Int} (h : hvS V L R) (h12 : x1 ≤ x2) (h1 : -1048576 < x1) (h2 : x2 < 1048576) (he : ∀ p, V2 p ↔ V p ∨ (x1 ≤ p ∧ p ≤ x2)) : hvS V2 (min L x1) (max R x2) := by
  refine Or.inr ?_
  rcases h with ⟨rfl, rfl, n⟩ | ⟨a, b, c, d, e, f⟩
  · rw [show min 1048576 x1 = x1 by omega, show max (-1048576) x2 = x2 by omega]
    refine ⟨(he _).mpr (Or.inr ⟨Int.le_refl _, h12⟩), (he _).mpr (Or.inr ⟨h12, Int.le_refl _⟩), h12, h1, h2, fun p q => ?_⟩
    rcases (he p).mp q with z | z
    · exact absurd z (n p)
    · exact z
  · refine ⟨?_, ?_, by omega, by omega, by omega, fun p q => ?_⟩
    · rcases Int.le_total L x1 with z | z
      · rw [show min L x1 = L by omega]; exact (he _).mpr (Or.inl a)
      · rw [show min L x1 = x1 by omega]; exact (he _).mpr (Or.inr ⟨Int.le_refl _, h12⟩)
    · rcases Int.le_total R x2 with z | z
      · rw [show max R x2 = x2 by omega]; exact (he _).mpr (Or.inr ⟨h12, Int.le_refl _⟩)
      · rw [show max R x2 = R by omega]; exact (he _).mpr (Or.inl b)
    · rcases (he p).mp q with z | z
      · have := f p z; omega
      · omega
theorem hv_same {V V2 : Int → Prop} {L R : Int} (h : hvS V L R) (he : ∀ p, V2 p ↔ V p) : hvS V2 L R := by
  have : V2 = V := funext (fun p => propext (he p))
  rw [this]; exact h
theorem hv_in {V : Int → Prop} {L R : Int} (h : hvS V L R) : -1048576 ≤ L ∧ L ≤ 1048576 ∧ -1048576 ≤ R ∧ R ≤ 1048576 := by
  rcases h with ⟨rfl, rfl, -⟩ | ⟨-, -, c, d, e, -⟩ <;> omega
/-- the end: from L to R lie the dots of the line -/
theorem hv_end {dx dy t a b row L R : Int} {V : Int → Prop} (h : hvS V L R) (h1 : ∀ p, V p → lnW dx dy t (p - a) (row - b)) (h2 : ∀ p, -500000 ≤ p → p ≤ 500000 → lnB dx dy t (p - a) (row - b) → V p) : ∀ p, -500000 ≤ p → p ≤ 500000 → (L ≤ p ∧ p ≤ R ↔ lnB dx dy t (p - a) (row - b)) := by
  intro p p1 p2
  rcases h with ⟨rfl, rfl, n⟩ | ⟨va, vb, c, d, e, f⟩
  · exact ⟨fun q => by omega, fun q => absurd (h2 p p1 p2 q) (n p)⟩
  · exact ⟨fun q => lw_ref (lw_conv (show L - a ≤ p - a by omega) (show p - a ≤ R - a by omega) (h1 L va) (h1 R vb)), fun q => f p (h2 p p1 p2 q)⟩
theorem ln_cases {dx dy t ex ey : Int} (h : lnB dx dy t ex ey) : 4 * (ex * ex + ey * ey) ≤ t * t ∨ 4 * ((ex - dx) * (ex - dx) + (ey - dy) * (ey - dy)) ≤ t * t ∨ (0 < dx * dx + dy * dy ∧ 0 ≤ dx * ex + dy * ey ∧ dx * ex + dy * ey ≤ dx * dx + dy * dy ∧ 4 * ((dx * ey - dy * ex) * (dx * ey - dy * ex)) ≤ t * t * (dx * dx + dy * dy)) := by
  unfold lnB at h
  split at h
  · exact Or.inl h
  · split at h
    · exact Or.inr (Or.inl h)
    · exact Or.inr (Or.inr ⟨by omega, by omega, by omega, h⟩)
def weS (t aw x L R : Int) (u : Int × Int) : Prop := (0 ≤ t * t - 4 * aw * aw → ∃ z, 0 ≤ z ∧ z * z ≤ (t * t - 4 * aw * aw) / 4 ∧ (t * t - 4 * aw * aw) / 4 < (z + 1) * (z + 1) ∧ u = (min L (x - z), max R (x + z))) ∧ (t * t - 4 * aw * aw < 0 → u = (L, R))
theorem we_z {t aw z : Int} (t1 : 1 ≤ t) (t2 : t ≤ 200) (z0 : 0 ≤ z) (z1 : z * z ≤ (t * t - 4 * aw * aw) / 4) : z ≤ 100 := by
  have a := sq_le (a := t) (b := 200) (by omega) t2
  have b := sq_nn aw
  have e : 4 * aw * aw = 4 * (aw * aw) := by grind
  have := sq_lt z0 z1 (show _ < 101 * 101 by omega) (by decide)
  omega
theorem we_hv {V : Int → Prop} {t aw x L R : Int} {u : Int × Int} (t1 : 1 ≤ t) (t2 : t ≤ 200) (x1 : -4096 ≤ x) (x2 : x ≤ 4096) (h : hvS V L R) (q : weS t aw x L R u) : hvS (fun p => V p ∨ 4 * ((p - x) * (p - x) + aw * aw) ≤ t * t) u.1 u.2 := by
  by_cases c : 0 ≤ t * t - 4 * aw * aw
  · obtain ⟨z, z0, z1, z2, rfl⟩ := q.1 c
    have z3 := we_z t1 t2 z0 z1
    exact hv_add h (by omega) (by omega) (by omega) (fun p => by rw [end_iff z0 z1 z2])
  · rw [q.2 (by omega)]
    exact hv_same h (fun p => ⟨fun z => z.resolve_right (end_no (by omega)), Or.inl⟩)
def wdS (dx dy L2 gc aw a L R : Int) (u : Int × Int) : Prop := ∃ f l : Int, sdS dx dy L2 gc aw f l ∧ (f ≤ l → u = (min L (a + f), max R (a + l))) ∧ (¬ f ≤ l → u = (L, R))
theorem cr_fin {a b c d t gc row : Int} {u1 u2 u3 : Int × Int} (t1 : 1 ≤ t) (t2 : t ≤ 200) (a1 : -4096 ≤ a) (a2 : a ≤ 4096) (b1 : -4096 ≤ b) (b2 : b ≤ 4096) (c1 : -4096 ≤ c) (c2 : c ≤ 4096) (d1 : -4096 ≤ d) (d2 : d ≤ 4096) (r1 : -4400 ≤ row) (r2 : row ≤ 4400)
    (g0 : 0 ≤ gc) (g1 : gc * gc ≤ t * t * ((c - a) * (c - a) + (d - b) * (d - b)) / 4) (g2 : t * t * ((c - a) * (c - a) + (d - b) * (d - b)) / 4 < (gc + 1) * (gc + 1))
    (q1 : weS t (row - b) a 1048576 (-1048576) u1) (q2 : weS t (row - d) c u1.1 u1.2 u2)
    (q3 : (0 < (c - a) * (c - a) + (d - b) * (d - b) ∧ wdS (c - a) (d - b) ((c - a) * (c - a) + (d - b) * (d - b)) gc (row - b) a u2.1 u2.2 u3) ∨ (¬ 0 < (c - a) * (c - a) + (d - b) * (d - b) ∧ u3 = u2)) :
    (∀ p, -500000 ≤ p → p ≤ 500000 → (u3.1 ≤ p ∧ p ≤ u3.2 ↔ lnB (c - a) (d - b) t (p - a) (row - b))) ∧ -1048576 ≤ u3.1 ∧ u3.1 ≤ 1048576 ∧ -1048576 ≤ u3.2 ∧ u3.2 ≤ 1048576 := by
  have v1 := we_hv t1 t2 a1 a2 hv_0 q1
  have v2 := we_hv t1 t2 c1 c2 v1 q2
  have eC : ∀ p, 4 * ((p - c) * (p - c) + (row - d) * (row - d)) = 4 * ((p - a - (c - a)) * (p - a - (c - a)) + (row - b - (d - b)) * (row - b - (d - b))) := fun p => by rw [show p - a - (c - a) = p - c by omega, show row - b - (d - b) = row - d by omega]
  have w2 : ∀ p, ((False ∨ 4 * ((p - a) * (p - a) + (row - b) * (row - b)) ≤ t * t) ∨ 4 * ((p - c) * (p - c) + (row - d) * (row - d)) ≤ t * t) → lnW (c - a) (d - b) t (p - a) (row - b) := by
    rintro p ((z | z) | z)
    · exact z.elim
    · exact lw_A z
    · exact lw_C (by rw [← eC]; exact z)
  rcases q3 with ⟨h0, f, l, s, s1, s2⟩ | ⟨h0, rfl⟩
  · have si := sd_in t1 t2 (by omega) (by omega) (by omega) (by omega) (by omega) (by omega) h0 g0 g1 s
    have v3 : hvS (fun p => ((False ∨ 4 * ((p - a) * (p - a) + (row - b) * (row - b)) ≤ t * t) ∨ 4 * ((p - c) * (p - c) + (row - d) * (row - d)) ≤ t * t) ∨ (a + f ≤ p ∧ p ≤ a + l)) u3.1 u3.2 := by
      by_cases e : f ≤ l
      · rw [s1 e]
        exact hv_add v2 (by omega) (by omega) (by omega) (fun p => Iff.rfl)
      · rw [s2 e]
        exact hv_same v2 (fun p => ⟨fun z => z.resolve_right (by omega), Or.inl⟩)
    refine ⟨hv_end v3 ?_ ?_, hv_in v3⟩
    · rintro p (z | z)
      · exact w2 p z
      · obtain ⟨y1, y2, y3⟩ := (sd_iff (e := p - a) g0 g1 g2 s (by omega) (by omega)).mp (by omega)
        exact lw_S h0 y1 y2 y3
    · intro p p1 p2 z
      rcases ln_cases z with y | y | ⟨-, y1, y2, y3⟩
      · exact Or.inl (Or.inl (Or.inr y))
      · exact Or.inl (Or.inr (by rw [eC]; exact y))
      · have := (sd_iff (e := p - a) g0 g1 g2 s (by omega) (by omega)).mpr ⟨y1, y2, y3⟩
        exact Or.inr (by omega)
  · refine ⟨hv_end v2 w2 ?_, hv_in v2⟩
    intro p p1 p2 z
    rcases ln_cases z with y | y | ⟨y, -⟩
    · exact Or.inl (Or.inr y)
    · exact Or.inr (by rw [eC]; exact y)
    · exact absurd y h0
theorem d_Sk_widen_0 : decode c_ySk_widen 0 = .ok (.aload_n 0, 1) := by decide +kernel
theorem d_Sk_widen_1 : decode c_ySk_widen 1 = .ok (.aload_n 0, 1) := by decide +kernel
theorem d_Sk_widen_2 : decode c_ySk_widen 2 = .ok (.getfield 47, 3) := by decide +kernel
theorem d_Sk_widen_5 : decode c_ySk_widen 5 = .ok (.iload_n 1, 1) := by decide +kernel
theorem d_Sk_widen_6 : decode c_ySk_widen 6 = .ok (.invokestatic 78, 3) := by decide +kernel
theorem d_Sk_widen_9 : decode c_ySk_widen 9 = .ok (.putfield 47, 3) := by decide +kernel
theorem d_Sk_widen_12 : decode c_ySk_widen 12 = .ok (.aload_n 0, 1) := by decide +kernel
theorem d_Sk_widen_13 : decode c_ySk_widen 13 = .ok (.aload_n 0, 1) := by decide +kernel
theorem d_Sk_widen_14 : decode c_ySk_widen 14 = .ok (.getfield 51, 3) := by decide +kernel
theorem d_Sk_widen_17 : decode c_ySk_widen 17 = .ok (.iload_n 2, 1) := by decide +kernel
theorem d_Sk_widen_18 : decode c_ySk_widen 18 = .ok (.invokestatic 69, 3) := by decide +kernel
theorem d_Sk_widen_21 : decode c_ySk_widen 21 = .ok (.putfield 51, 3) := by decide +kernel
theorem d_Sk_widen_24 : decode c_ySk_widen 24 = .ok (.return_, 1) := by decide +kernel
set_option maxHeartbeats 4000000 in
set_option maxRecDepth 100000 in
theorem c_Stroke_widen (l : Launch) (dC : Nat → ClassId) (dI : Nat → Nat → Nat) (hq : Nat) (a b c0 d t dx dy L2 gc lf rt fr to_ : Int) (sz : Nat) (lf1 : -16777216 ≤ lf) (lf2 : lf ≤ 16777216) (rt1 : -16777216 ≤ rt) (rt2 : rt ≤ 16777216) (fr1 : -16777216 ≤ fr) (fr2 : fr ≤ 16777216) (to1 : -16777216 ≤ to_) (to2 : to_ ≤ 16777216) : Met l y_Sk_widen w_Sk_widen ({ frames := 1, cells := 0, slots := 0, locals := 21 }) (va_Pc [.ref hq, .int (iZ fr), .int (iZ to_)] (zPm (dC, dI) vwCl [(hq, .inr (5, [.int (iZ a), .int (iZ b), .int (iZ c0), .int (iZ d), .int (iZ t), .long (lZ dx), .long (lZ dy), .long (lZ L2), .long (lZ gc), .int (iZ lf), .int (iZ rt)]))] [] sz)) (va_Qv (fun (u : Unit) => True) (fun u => zB (dC, dI) vwCl [] (va_A [(hq, .inr (5, [.int (iZ a), .int (iZ b), .int (iZ c0), .int (iZ d), .int (iZ t), .long (lZ dx), .long (lZ dy), .long (lZ L2), .long (lZ gc), .int (iZ lf), .int (iZ rt)]))] sz) [(hq, .inr (5, [.int (iZ a), .int (iZ b), .int (iZ c0), .int (iZ d), .int (iZ t), .long (lZ dx), .long (lZ dy), .long (lZ L2), .long (lZ gc), .int (iZ (min lf fr)), .int (iZ (max rt to_))]))]) (va_A [(hq, .inr (5, [.int (iZ a), .int (iZ b), .int (iZ c0), .int (iZ d), .int (iZ t), .long (lZ dx), .long (lZ dy), .long (lZ L2), .long (lZ gc), .int (iZ lf), .int (iZ rt)]))] sz)) 0 0 (va_A [(hq, .inr (5, [.int (iZ a), .int (iZ b), .int (iZ c0), .int (iZ d), .int (iZ t), .long (lZ dx), .long (lZ dy), .long (lZ L2), .long (lZ gc), .int (iZ lf), .int (iZ rt)]))] sz) := by
  refine Met.ofW (cc := c_ySk_widen) (maxL := 3) (ret := none) (by decide) rfl ?_
  intro p e s m args below meth c s₁ B hml hv
  obtain ⟨rfl, hsz, hP, hK, hD0⟩ := hv
  have hx := B.exec
  have hb := B.bytes
  have hr := B.returns
  have hts0 := atoms_spec (ws := w_Sk_widen) B.pre
  have hts : ∀ w ∈ gT, w.before _ s = true := fun w h => hts0 w (List.mem_cons_of_mem _ h)
  have hown : s.vm.findClass R_Sk = some m.cls := findClass_of_methodNamed B.named
  have hlocks := B.notSynchronized
  subst hsz
  have hD := hD0.self (sz := s.heap.size)
  generalize hAe : va_A [(hq, .inr (5, [.int (iZ a), .int (iZ b), .int (iZ c0), .int (iZ d), .int (iZ t), .long (lZ dx), .long (lZ dy), .long (lZ L2), .long (lZ gc), .int (iZ lf), .int (iZ rt)]))] s.heap.size = A at hD ⊢
  have hA : ∀ q : Nat, s.heap.size ≤ q → A q := fun q h => by rw [← hAe]; exact Or.inr h
  obtain ⟨H, hH⟩ : ∃ H, s.heap = H := ⟨_, rfl⟩
  have hS : va_S A s.heap H [] := by rw [← hH]; exact va_S.rf
  rw [hH] at hP
  rw [hH]
  have hl := lv_entry ([.ref hq, .int (iZ fr), .int (iZ to_)]) (n := 3) (Nat.le_of_ble_eq_true rfl)
  rw [lg_entry_eq]
  generalize (lg_sl ([.ref hq, .int (iZ fr), .int (iZ to_)]) ++ List.replicate (3 - (lg_sl ([.ref hq, .int (iZ fr), .int (iZ to_)])).length) Slot.unset).toArray = ls at hl ⊢
  have hl : lv_has ls 3 [(0, .ref hq), (1, .int (iZ fr)), (2, .int (iZ to_))] := hl
  refine lv_aload_n hx hb d_Sk_widen_0 rfl (lv_at hl 0 rfl) ?_
  refine lv_aload_n hx hb d_Sk_widen_1 rfl (lv_at hl 0 rfl) ?_
  refine va_get (D := (dC, dI)) (ci := 5) (v := .int (iZ lf)) (C := R_Sk) (T := T_Sk) (N := 11) hx hb hts wi_Sk hown hK hP 0 rfl rfl 9 (by decide) (hts _ t_320) (fun _ h9 => h9) rfl d_Sk_widen_2 ?_
  refine lv_iload_n hx hb d_Sk_widen_5 rfl (lv_at hl 1 rfl) ?_
  refine vp_callSi (va_runS (As := [.int (iZ lf), .int (iZ fr)]) (rest := [.ref hq]) ⟨hx, hb, hml, hown, hts⟩ (c_Math_mini l dC dI lf fr (by first | omega | assumption) (by first | omega | assumption) (by first | omega | assumption) (by first | omega | assumption)) (va_cwS 2 hts (gS t_361 t_272 t_12 t_273) rfl rfl rfl (by decide +kernel) ⟨Nat.le_of_ble_eq_true rfl, Nat.le_of_ble_eq_true rfl⟩) ⟨zPr_blind, zPr_pre hP hK [] [] rfl rfl⟩ rfl rfl hl.1 rfl (lv_room (Nat.le_of_ble_eq_true rfl)) d_Sk_widen_6 ⟨Nat.le_of_ble_eq_true rfl, Nat.le_of_ble_eq_true rfl⟩).run (fun r_6 q_6 => ?_)
  obtain rfl := q_6
  refine va_put (D := (dC, dI)) (ci := 5) (v := .int (iZ (min lf fr))) (ty := .int) (C := R_Sk) (T := T_Sk) (N := 11) hx hb hts wi_Sk ty_Sk ty_Sk_ok nd_Sk hown hK hP hD hS 0 rfl rfl 9 (by decide) (hts _ t_320) (fun _ h9 => h9) rfl (by decide +kernel) rfl rfl (Nat.le_of_ble_eq_true rfl) d_Sk_widen_9 (fun H locs hP hD hS => ?_)
  have hP : va_P (dC, dI) vwCl [(hq, .inr (5, [.int (iZ a), .int (iZ b), .int (iZ c0), .int (iZ d), .int (iZ t), .long (lZ dx), .long (lZ dy), .long (lZ L2), .long (lZ gc), .int (iZ (min lf fr)), .int (iZ rt)]))] H := hP
  have hD : va_D A [(hq, .inr (5, [.int (iZ a), .int (iZ b), .int (iZ c0), .int (iZ d), .int (iZ t), .long (lZ dx), .long (lZ dy), .long (lZ L2), .long (lZ gc), .int (iZ (min lf fr)), .int (iZ rt)]))] := hD
  refine lv_aload_n hx hb d_Sk_widen_12 rfl (lv_at hl 0 rfl) ?_
  refine lv_aload_n hx hb d_Sk_widen_13 rfl (lv_at hl 0 rfl) ?_
  refine va_get (D := (dC, dI)) (ci := 5) (v := .int (iZ rt)) (C := R_Sk) (T := T_Sk) (N := 11) hx hb hts wi_Sk hown hK hP 0 rfl rfl 10 (by decide) (hts _ t_322) (fun _ h9 => h9) rfl d_Sk_widen_14 ?_
  refine lv_iload_n hx hb d_Sk_widen_17 rfl (lv_at hl 2 rfl) ?_
  refine vp_callSi (va_runS (As := [.int (iZ rt), .int (iZ to_)]) (rest := [.ref hq]) ⟨hx, hb, hml, hown, hts⟩ (c_Math_maxi l dC dI rt to_ (by first | omega | assumption) (by first | omega | assumption) (by first | omega | assumption) (by first | omega | assumption)) (va_cwS 2 hts (gS t_362 t_269 t_12 t_270) rfl rfl rfl (by decide +kernel) ⟨Nat.le_of_ble_eq_true rfl, Nat.le_of_ble_eq_true rfl⟩) ⟨zPr_blind, zPr_pre hP hK [] [] rfl rfl⟩ rfl rfl hl.1 rfl (lv_room (Nat.le_of_ble_eq_true rfl)) d_Sk_widen_18 ⟨Nat.le_of_ble_eq_true rfl, Nat.le_of_ble_eq_true rfl⟩).run (fun r_18 q_18 => ?_)
  obtain rfl := q_18
  refine va_put (D := (dC, dI)) (ci := 5) (v := .int (iZ (max rt to_))) (ty := .int) (C := R_Sk) (T := T_Sk) (N := 11) hx hb hts wi_Sk ty_Sk ty_Sk_ok nd_Sk hown hK hP hD hS 0 rfl rfl 10 (by decide) (hts _ t_322) (fun _ h9 => h9) rfl (by decide +kernel) rfl rfl (Nat.le_of_ble_eq_true rfl) d_Sk_widen_21 (fun H locs hP hD hS => ?_)
  have hP : va_P (dC, dI) vwCl [(hq, .inr (5, [.int (iZ a), .int (iZ b), .int (iZ c0), .int (iZ d), .int (iZ t), .long (lZ dx), .long (lZ dy), .long (lZ L2), .long (lZ gc), .int (iZ (min lf fr)), .int (iZ (max rt to_))]))] H := hP
  have hD : va_D A [(hq, .inr (5, [.int (iZ a), .int (iZ b), .int (iZ c0), .int (iZ d), .int (iZ t), .long (lZ dx), .long (lZ dy), .long (lZ L2), .long (lZ gc), .int (iZ (min lf fr)), .int (iZ (max rt to_))]))] := hD
  exact W.vret hx hb hr (fun t ht hW => ⟨⟨(()), rfl, trivial, by rw [ht]; exact hP, va_K.moved hW.alike hK, hD⟩, hS.F ht⟩) hS.2.2 d_Sk_widen_24
theorem d_Sk_widenByEnd_0 : decode c_ySk_widenByEnd 0 = .ok (.aload_n 0, 1) := by decide +kernel
theorem d_Sk_widenByEnd_1 : decode c_ySk_widenByEnd 1 = .ok (.getfield 22, 3) := by decide +kernel
theorem d_Sk_widenByEnd_4 : decode c_ySk_widenByEnd 4 = .ok (.aload_n 0, 1) := by decide +kernel
theorem d_Sk_widenByEnd_5 : decode c_ySk_widenByEnd 5 = .ok (.getfield 22, 3) := by decide +kernel
theorem d_Sk_widenByEnd_8 : decode c_ySk_widenByEnd 8 = .ok (.imul, 1) := by decide +kernel
theorem d_Sk_widenByEnd_9 : decode c_ySk_widenByEnd 9 = .ok (.iconst 4, 1) := by decide +kernel
theorem d_Sk_widenByEnd_10 : decode c_ySk_widenByEnd 10 = .ok (.iload_n 2, 1) := by decide +kernel
theorem d_Sk_widenByEnd_11 : decode c_ySk_widenByEnd 11 = .ok (.imul, 1) := by decide +kernel
theorem d_Sk_widenByEnd_12 : decode c_ySk_widenByEnd 12 = .ok (.iload_n 2, 1) := by decide +kernel
theorem d_Sk_widenByEnd_13 : decode c_ySk_widenByEnd 13 = .ok (.imul, 1) := by decide +kernel
theorem d_Sk_widenByEnd_14 : decode c_ySk_widenByEnd 14 = .ok (.isub, 1) := by decide +kernel
theorem d_Sk_widenByEnd_15 : decode c_ySk_widenByEnd 15 = .ok (.istore_n 3, 1) := by decide +kernel
theorem d_Sk_widenByEnd_16 : decode c_ySk_widenByEnd 16 = .ok (.iload_n 3, 1) := by decide +kernel
theorem d_Sk_widenByEnd_17 : decode c_ySk_widenByEnd 17 = .ok (.ifCond .lt 25, 3) := by decide +kernel
theorem d_Sk_widenByEnd_20 : decode c_ySk_widenByEnd 20 = .ok (.iload_n 3, 1) := by decide +kernel
theorem d_Sk_widenByEnd_21 : decode c_ySk_widenByEnd 21 = .ok (.iconst 4, 1) := by decide +kernel
theorem d_Sk_widenByEnd_22 : decode c_ySk_widenByEnd 22 = .ok (.idiv, 1) := by decide +kernel
theorem d_Sk_widenByEnd_23 : decode c_ySk_widenByEnd 23 = .ok (.i2l, 1) := by decide +kernel
theorem d_Sk_widenByEnd_24 : decode c_ySk_widenByEnd 24 = .ok (.invokestatic 37, 3) := by decide +kernel
theorem d_Sk_widenByEnd_27 : decode c_ySk_widenByEnd 27 = .ok (.l2i, 1) := by decide +kernel
theorem d_Sk_widenByEnd_28 : decode c_ySk_widenByEnd 28 = .ok (.istore 4, 2) := by decide +kernel
theorem d_Sk_widenByEnd_30 : decode c_ySk_widenByEnd 30 = .ok (.aload_n 0, 1) := by decide +kernel
theorem d_Sk_widenByEnd_31 : decode c_ySk_widenByEnd 31 = .ok (.iload_n 1, 1) := by decide +kernel
theorem d_Sk_widenByEnd_32 : decode c_ySk_widenByEnd 32 = .ok (.iload 4, 2) := by decide +kernel
theorem d_Sk_widenByEnd_34 : decode c_ySk_widenByEnd 34 = .ok (.isub, 1) := by decide +kernel
theorem d_Sk_widenByEnd_35 : decode c_ySk_widenByEnd 35 = .ok (.iload_n 1, 1) := by decide +kernel
theorem d_Sk_widenByEnd_36 : decode c_ySk_widenByEnd 36 = .ok (.iload 4, 2) := by decide +kernel
theorem d_Sk_widenByEnd_38 : decode c_ySk_widenByEnd 38 = .ok (.iadd, 1) := by decide +kernel
theorem d_Sk_widenByEnd_39 : decode c_ySk_widenByEnd 39 = .ok (.invokevirtual 62, 3) := by decide +kernel
theorem d_Sk_widenByEnd_42 : decode c_ySk_widenByEnd 42 = .ok (.return_, 1) := by decide +kernel
set_option maxHeartbeats 4000000 in
set_option maxRecDepth 100000 in
theorem c_Stroke_widenByEnd (l : Launch) (dC : Nat → ClassId) (dI : Nat → Nat → Nat) (hq : Nat) (a b c0 d t dx dy L2 gc lf rt x aw : Int) (sz : Nat) (lf1 : -16777216 ≤ lf) (lf2 : lf ≤ 16777216) (rt1 : -16777216 ≤ rt) (rt2 : rt ≤ 16777216) (t1 : 1 ≤ t) (t2 : t ≤ 200) (x1 : -4096 ≤ x) (x2 : x ≤ 4096) (aw1 : -9000 ≤ aw) (aw2 : aw ≤ 9000) : Met l y_Sk_widenByEnd w_Sk_widenByEnd ({ frames := 2, cells := 0, slots := 0, locals := 43 }) (va_Pc [.ref hq, .int (iZ x), .int (iZ aw)] (zPm (dC, dI) vwCl [(hq, .inr (5, [.int (iZ a), .int (iZ b), .int (iZ c0), .int (iZ d), .int (iZ t), .long (lZ dx), .long (lZ dy), .long (lZ L2), .long (lZ gc), .int (iZ lf), .int (iZ rt)]))] [] sz)) (va_Qv (fun (u : Int × Int) => weS t aw x lf rt u) (fun u => zB (dC, dI) vwCl [] (va_A [(hq, .inr (5, [.int (iZ a), .int (iZ b), .int (iZ c0), .int (iZ d), .int (iZ t), .long (lZ dx), .long (lZ dy), .long (lZ L2), .long (lZ gc), .int (iZ lf), .int (iZ rt)]))] sz) [(hq, .inr (5, [.int (iZ a), .int (iZ b), .int (iZ c0), .int (iZ d), .int (iZ t), .long (lZ dx), .long (lZ dy), .long (lZ L2), .long (lZ gc), .int (iZ u.1), .int (iZ u.2)]))]) (va_A [(hq, .inr (5, [.int (iZ a), .int (iZ b), .int (iZ c0), .int (iZ d), .int (iZ t), .long (lZ dx), .long (lZ dy), .long (lZ L2), .long (lZ gc), .int (iZ lf), .int (iZ rt)]))] sz)) 0 0 (va_A [(hq, .inr (5, [.int (iZ a), .int (iZ b), .int (iZ c0), .int (iZ d), .int (iZ t), .long (lZ dx), .long (lZ dy), .long (lZ L2), .long (lZ gc), .int (iZ lf), .int (iZ rt)]))] sz) := by
  refine Met.ofW (cc := c_ySk_widenByEnd) (maxL := 5) (ret := none) (by decide) rfl ?_
  intro p e s m args below meth c s₁ B hml hv
  obtain ⟨rfl, hsz, hP, hK, hD0⟩ := hv
  have hx := B.exec
  have hb := B.bytes
  have hr := B.returns
  have hts0 := atoms_spec (ws := w_Sk_widenByEnd) B.pre
  have hts : ∀ w ∈ gT, w.before _ s = true := fun w h => hts0 w (List.mem_cons_of_mem _ h)
  have hown : s.vm.findClass R_Sk = some m.cls := findClass_of_methodNamed B.named
  have hlocks := B.notSynchronized
  subst hsz
  have hD := hD0.self (sz := s.heap.size)
  generalize hAe : va_A [(hq, .inr (5, [.int (iZ a), .int (iZ b), .int (iZ c0), .int (iZ d), .int (iZ t), .long (lZ dx), .long (lZ dy), .long (lZ L2), .long (lZ gc), .int (iZ lf), .int (iZ rt)]))] s.heap.size = A at hD ⊢
  have hA : ∀ q : Nat, s.heap.size ≤ q → A q := fun q h => by rw [← hAe]; exact Or.inr h
  obtain ⟨H, hH⟩ : ∃ H, s.heap = H := ⟨_, rfl⟩
  have hS : va_S A s.heap H [] := by rw [← hH]; exact va_S.rf
  rw [hH] at hP
  rw [hH]
  have hl := lv_entry ([.ref hq, .int (iZ x), .int (iZ aw)]) (n := 5) (Nat.le_of_ble_eq_true rfl)
  rw [lg_entry_eq]
  generalize (lg_sl ([.ref hq, .int (iZ x), .int (iZ aw)]) ++ List.replicate (5 - (lg_sl ([.ref hq, .int (iZ x), .int (iZ aw)])).length) Slot.unset).toArray = ls at hl ⊢
  have hl : lv_has ls 5 [(0, .ref hq), (1, .int (iZ x)), (2, .int (iZ aw))] := hl
  have tt := sq_le (a := t) (b := 200) (by omega) t2
  have tn := sq_nn t
  have aa := mul_ab (a := aw) (b := aw) (A := 9000) (B := 9000) (by omega) (by omega) (by omega) (by omega)
  have an := sq_nn aw
  have ae : 4 * aw * aw = 4 * (aw * aw) := Int.mul_assoc ..
  refine lv_aload_n hx hb d_Sk_widenByEnd_0 rfl (lv_at hl 0 rfl) ?_
  refine va_get (D := (dC, dI)) (ci := 5) (v := .int (iZ t)) (C := R_Sk) (T := T_Sk) (N := 11) hx hb hts wi_Sk hown hK hP 0 rfl rfl 4 (by decide) (hts _ t_315) (fun _ h9 => h9) rfl d_Sk_widenByEnd_1 ?_
  refine lv_aload_n hx hb d_Sk_widenByEnd_4 rfl (lv_at hl 0 rfl) ?_
  refine va_get (D := (dC, dI)) (ci := 5) (v := .int (iZ t)) (C := R_Sk) (T := T_Sk) (N := 11) hx hb hts wi_Sk hown hK hP 0 rfl rfl 4 (by decide) (hts _ t_315) (fun _ h9 => h9) rfl d_Sk_widenByEnd_5 ?_
  refine zi_mul hx hb d_Sk_widenByEnd_8 ?_
  refine lv_iconst (v := iZ (4)) hx hb d_Sk_widenByEnd_9 rfl ?_
  refine lv_iload_n hx hb d_Sk_widenByEnd_10 rfl (lv_at hl 2 rfl) ?_
  refine zi_mul hx hb d_Sk_widenByEnd_11 ?_
  refine lv_iload_n hx hb d_Sk_widenByEnd_12 rfl (lv_at hl 2 rfl) ?_
  refine zi_mul hx hb d_Sk_widenByEnd_13 ?_
  refine zi_sub hx hb d_Sk_widenByEnd_14 ?_
  refine zn_z (fun rs e_rs => ?_)
  refine lv_istore_n (lv' := [(3, .int (iZ rs)), (0, .ref hq), (1, .int (iZ x)), (2, .int (iZ aw))]) hx hb d_Sk_widenByEnd_15 rfl hl (by decide) rfl (fun ls hl => ?_)
  refine lv_iload_n hx hb d_Sk_widenByEnd_16 rfl (lv_at hl 0 rfl) ?_
  refine zi_if_lt (tgt := 42) hx hb d_Sk_widenByEnd_17 (by decide) (by omega) (by omega) (fun c_17 => ?_) (fun c_17 => ?_)
  · exact W.vret hx hb hr (fun t ht hW => ⟨⟨((lf, rt)), rfl, ⟨fun z => by omega, fun _ => rfl⟩, by rw [ht]; exact hP, va_K.moved hW.alike hK, hD⟩, hS.F ht⟩) hS.2.2 d_Sk_widenByEnd_42
  · refine lv_iload_n hx hb d_Sk_widenByEnd_20 rfl (lv_at hl 0 rfl) ?_
    refine lv_iconst (v := iZ (4)) hx hb d_Sk_widenByEnd_21 rfl ?_
    refine zi_div hx hb d_Sk_widenByEnd_22 (by omega) (by omega) (by omega) (by omega) ?_
    refine zi_l hx hb d_Sk_widenByEnd_23 (by omega) (by omega) ?_
    refine vp_callSl (va_runS (As := [.long (lZ (rs / 4))]) (rest := []) ⟨hx, hb, hml, hown, hts⟩ (c_Reckoning_root l dC dI (rs / 4) (by first | omega | assumption) (by first | omega | assumption)) (va_cwS 1 hts (gS t_307 t_308 t_14 t_309) rfl rfl rfl (by decide +kernel) ⟨Nat.le_of_ble_eq_true rfl, Nat.le_of_ble_eq_true rfl⟩) ⟨zPr_blind, zPr_pre hP hK [] [] rfl rfl⟩ rfl rfl hl.1 rfl (lv_room (Nat.le_of_ble_eq_true rfl)) d_Sk_widenByEnd_24 ⟨Nat.le_of_ble_eq_true rfl, Nat.le_of_ble_eq_true rfl⟩).run (fun r_24 q_24 => ?_)
    obtain ⟨k_24, rfl, q_24⟩ := q_24
    have z9 : k_24 ≤ 100 := by have := sq_lt q_24.1 q_24.2.2.1 (show _ < 101 * 101 by omega) (by decide); omega
    refine zl_i hx hb d_Sk_widenByEnd_27 ?_
    refine lv_istore (lv' := [(4, .int (iZ k_24)), (3, .int (iZ rs)), (0, .ref hq), (1, .int (iZ x)), (2, .int (iZ aw))]) hx hb d_Sk_widenByEnd_28 hl (by decide) rfl (fun ls hl => ?_)
    refine lv_aload_n hx hb d_Sk_widenByEnd_30 rfl (lv_at hl 2 rfl) ?_
    refine lv_iload_n hx hb d_Sk_widenByEnd_31 rfl (lv_at hl 3 rfl) ?_
    refine lv_iload hx hb d_Sk_widenByEnd_32 (lv_at hl 0 rfl) ?_
    refine zi_sub hx hb d_Sk_widenByEnd_34 ?_
    refine lv_iload_n hx hb d_Sk_widenByEnd_35 rfl (lv_at hl 3 rfl) ?_
    refine lv_iload hx hb d_Sk_widenByEnd_36 (lv_at hl 0 rfl) ?_
    refine zi_add hx hb d_Sk_widenByEnd_38 ?_
    refine zc_v (w1 := fun (u_39 : Unit) => [(hq, .inr (5, [.int (iZ a), .int (iZ b), .int (iZ c0), .int (iZ d), .int (iZ t), .long (lZ dx), .long (lZ dy), .long (lZ L2), .long (lZ gc), .int (iZ (min lf (x - k_24))), .int (iZ (max rt (x + k_24)))]))]) (wr := []) (va_runV (As := [.int (iZ (x - k_24)), .int (iZ (x + k_24))]) (rest := []) ⟨hx, hb, hml, hown, hts⟩ (c_Stroke_widen l dC dI hq a b c0 d t dx dy L2 gc lf rt (x - k_24) (x + k_24) H.size (by first | omega | assumption) (by first | omega | assumption) (by first | omega | assumption) (by first | omega | assumption) (by first | omega | assumption) (by first | omega | assumption) (by first | omega | assumption) (by first | omega | assumption)) (cwV 2 hts (gV t_357 t_359 s_3 t_13 t_360) rfl rfl rfl (by decide +kernel) ⟨Nat.le_of_ble_eq_true rfl, Nat.le_of_ble_eq_true rfl⟩) ⟨zPm_blind, va_recv hK hP (ci := 5) (q0 := 0) rfl rfl, zPm_pre hP hD hK [0] [] rfl rfl rfl rfl⟩ rfl rfl hl.1 rfl (lv_room (Nat.le_of_ble_eq_true rfl)) d_Sk_widenByEnd_39 ⟨Nat.le_of_ble_eq_true rfl, Nat.le_of_ble_eq_true rfl⟩) hP hD hS hA [0] [] rfl rfl rfl (by decide) (fun u_39 H locs q_39 hP hD hS => ?_)
    have hP : va_P (dC, dI) vwCl [(hq, .inr (5, [.int (iZ a), .int (iZ b), .int (iZ c0), .int (iZ d), .int (iZ t), .long (lZ dx), .long (lZ dy), .long (lZ L2), .long (lZ gc), .int (iZ (min lf (x - k_24))), .int (iZ (max rt (x + k_24)))]))] H := hP
    have hD : va_D A [(hq, .inr (5, [.int (iZ a), .int (iZ b), .int (iZ c0), .int (iZ d), .int (iZ t), .long (lZ dx), .long (lZ dy), .long (lZ L2), .long (lZ gc), .int (iZ (min lf (x - k_24))), .int (iZ (max rt (x + k_24)))]))] := hD
    exact W.vret hx hb hr (fun t ht hW => ⟨⟨((min lf (x - k_24), max rt (x + k_24))), rfl, ⟨fun _ => ⟨k_24, q_24.1, by rw [← e_rs]; exact q_24.2.2.1, by rw [← e_rs]; exact q_24.2.2.2, rfl⟩, fun z => by omega⟩, by rw [ht]; exact hP, va_K.moved hW.alike hK, hD⟩, hS.F ht⟩) hS.2.2 d_Sk_widenByEnd_42
theorem d_Sk_widenBySide_0 : decode c_ySk_widenBySide 0 = .ok (.iload_n 1, 1) := by decide +kernel
theorem d_Sk_widenBySide_1 : decode c_ySk_widenBySide 1 = .ok (.ineg, 1) := by decide +kernel
theorem d_Sk_widenBySide_2 : decode c_ySk_widenBySide 2 = .ok (.i2l, 1) := by decide +kernel
theorem d_Sk_widenBySide_3 : decode c_ySk_widenBySide 3 = .ok (.aload_n 0, 1) := by decide +kernel
theorem d_Sk_widenBySide_4 : decode c_ySk_widenBySide 4 = .ok (.getfield 29, 3) := by decide +kernel
theorem d_Sk_widenBySide_7 : decode c_ySk_widenBySide 7 = .ok (.lmul, 1) := by decide +kernel
theorem d_Sk_widenBySide_8 : decode c_ySk_widenBySide 8 = .ok (.lstore_n 2, 1) := by decide +kernel
theorem d_Sk_widenBySide_9 : decode c_ySk_widenBySide 9 = .ok (.iload_n 1, 1) := by decide +kernel
theorem d_Sk_widenBySide_10 : decode c_ySk_widenBySide 10 = .ok (.i2l, 1) := by decide +kernel
theorem d_Sk_widenBySide_11 : decode c_ySk_widenBySide 11 = .ok (.aload_n 0, 1) := by decide +kernel
theorem d_Sk_widenBySide_12 : decode c_ySk_widenBySide 12 = .ok (.getfield 25, 3) := by decide +kernel
theorem d_Sk_widenBySide_15 : decode c_ySk_widenBySide 15 = .ok (.lmul, 1) := by decide +kernel
theorem d_Sk_widenBySide_16 : decode c_ySk_widenBySide 16 = .ok (.lstore 4, 2) := by decide +kernel
theorem d_Sk_widenBySide_18 : decode c_ySk_widenBySide 18 = .ok (.aload_n 0, 1) := by decide +kernel
theorem d_Sk_widenBySide_19 : decode c_ySk_widenBySide 19 = .ok (.getfield 25, 3) := by decide +kernel
theorem d_Sk_widenBySide_22 : decode c_ySk_widenBySide 22 = .ok (.lload_n 2, 1) := by decide +kernel
theorem d_Sk_widenBySide_23 : decode c_ySk_widenBySide 23 = .ok (.lload_n 2, 1) := by decide +kernel
theorem d_Sk_widenBySide_24 : decode c_ySk_widenBySide 24 = .ok (.aload_n 0, 1) := by decide +kernel
theorem d_Sk_widenBySide_25 : decode c_ySk_widenBySide 25 = .ok (.getfield 32, 3) := by decide +kernel
theorem d_Sk_widenBySide_28 : decode c_ySk_widenBySide 28 = .ok (.ladd, 1) := by decide +kernel
theorem d_Sk_widenBySide_29 : decode c_ySk_widenBySide 29 = .ok (.invokestatic 65, 3) := by decide +kernel
theorem d_Sk_widenBySide_32 : decode c_ySk_widenBySide 32 = .ok (.aload_n 0, 1) := by decide +kernel
theorem d_Sk_widenBySide_33 : decode c_ySk_widenBySide 33 = .ok (.getfield 29, 3) := by decide +kernel
theorem d_Sk_widenBySide_36 : decode c_ySk_widenBySide 36 = .ok (.lload 4, 2) := by decide +kernel
theorem d_Sk_widenBySide_38 : decode c_ySk_widenBySide 38 = .ok (.aload_n 0, 1) := by decide +kernel
theorem d_Sk_widenBySide_39 : decode c_ySk_widenBySide 39 = .ok (.getfield 43, 3) := by decide +kernel
theorem d_Sk_widenBySide_42 : decode c_ySk_widenBySide 42 = .ok (.lsub, 1) := by decide +kernel
theorem d_Sk_widenBySide_43 : decode c_ySk_widenBySide 43 = .ok (.lload 4, 2) := by decide +kernel
theorem d_Sk_widenBySide_45 : decode c_ySk_widenBySide 45 = .ok (.aload_n 0, 1) := by decide +kernel
theorem d_Sk_widenBySide_46 : decode c_ySk_widenBySide 46 = .ok (.getfield 43, 3) := by decide +kernel
theorem d_Sk_widenBySide_49 : decode c_ySk_widenBySide 49 = .ok (.ladd, 1) := by decide +kernel
theorem d_Sk_widenBySide_50 : decode c_ySk_widenBySide 50 = .ok (.invokestatic 65, 3) := by decide +kernel
theorem d_Sk_widenBySide_53 : decode c_ySk_widenBySide 53 = .ok (.invokestatic 69, 3) := by decide +kernel
theorem d_Sk_widenBySide_56 : decode c_ySk_widenBySide 56 = .ok (.istore 6, 2) := by decide +kernel
theorem d_Sk_widenBySide_58 : decode c_ySk_widenBySide 58 = .ok (.aload_n 0, 1) := by decide +kernel
theorem d_Sk_widenBySide_59 : decode c_ySk_widenBySide 59 = .ok (.getfield 25, 3) := by decide +kernel
theorem d_Sk_widenBySide_62 : decode c_ySk_widenBySide 62 = .ok (.lload_n 2, 1) := by decide +kernel
theorem d_Sk_widenBySide_63 : decode c_ySk_widenBySide 63 = .ok (.lload_n 2, 1) := by decide +kernel
theorem d_Sk_widenBySide_64 : decode c_ySk_widenBySide 64 = .ok (.aload_n 0, 1) := by decide +kernel
theorem d_Sk_widenBySide_65 : decode c_ySk_widenBySide 65 = .ok (.getfield 32, 3) := by decide +kernel
theorem d_Sk_widenBySide_68 : decode c_ySk_widenBySide 68 = .ok (.ladd, 1) := by decide +kernel
theorem d_Sk_widenBySide_69 : decode c_ySk_widenBySide 69 = .ok (.invokestatic 75, 3) := by decide +kernel
theorem d_Sk_widenBySide_72 : decode c_ySk_widenBySide 72 = .ok (.aload_n 0, 1) := by decide +kernel
theorem d_Sk_widenBySide_73 : decode c_ySk_widenBySide 73 = .ok (.getfield 29, 3) := by decide +kernel
theorem d_Sk_widenBySide_76 : decode c_ySk_widenBySide 76 = .ok (.lload 4, 2) := by decide +kernel
theorem d_Sk_widenBySide_78 : decode c_ySk_widenBySide 78 = .ok (.aload_n 0, 1) := by decide +kernel
theorem d_Sk_widenBySide_79 : decode c_ySk_widenBySide 79 = .ok (.getfield 43, 3) := by decide +kernel
theorem d_Sk_widenBySide_82 : decode c_ySk_widenBySide 82 = .ok (.lsub, 1) := by decide +kernel
theorem d_Sk_widenBySide_83 : decode c_ySk_widenBySide 83 = .ok (.lload 4, 2) := by decide +kernel
theorem d_Sk_widenBySide_85 : decode c_ySk_widenBySide 85 = .ok (.aload_n 0, 1) := by decide +kernel
theorem d_Sk_widenBySide_86 : decode c_ySk_widenBySide 86 = .ok (.getfield 43, 3) := by decide +kernel
theorem d_Sk_widenBySide_89 : decode c_ySk_widenBySide 89 = .ok (.ladd, 1) := by decide +kernel
theorem d_Sk_widenBySide_90 : decode c_ySk_widenBySide 90 = .ok (.invokestatic 75, 3) := by decide +kernel
theorem d_Sk_widenBySide_93 : decode c_ySk_widenBySide 93 = .ok (.invokestatic 78, 3) := by decide +kernel
theorem d_Sk_widenBySide_96 : decode c_ySk_widenBySide 96 = .ok (.istore 7, 2) := by decide +kernel
theorem d_Sk_widenBySide_98 : decode c_ySk_widenBySide 98 = .ok (.iload 6, 2) := by decide +kernel
theorem d_Sk_widenBySide_100 : decode c_ySk_widenBySide 100 = .ok (.iload 7, 2) := by decide +kernel
theorem d_Sk_widenBySide_102 : decode c_ySk_widenBySide 102 = .ok (.if_icmp .gt 21, 3) := by decide +kernel
theorem d_Sk_widenBySide_105 : decode c_ySk_widenBySide 105 = .ok (.aload_n 0, 1) := by decide +kernel
theorem d_Sk_widenBySide_106 : decode c_ySk_widenBySide 106 = .ok (.aload_n 0, 1) := by decide +kernel
theorem d_Sk_widenBySide_107 : decode c_ySk_widenBySide 107 = .ok (.getfield 7, 3) := by decide +kernel
theorem d_Sk_widenBySide_110 : decode c_ySk_widenBySide 110 = .ok (.iload 6, 2) := by decide +kernel
theorem d_Sk_widenBySide_112 : decode c_ySk_widenBySide 112 = .ok (.iadd, 1) := by decide +kernel
theorem d_Sk_widenBySide_113 : decode c_ySk_widenBySide 113 = .ok (.aload_n 0, 1) := by decide +kernel
theorem d_Sk_widenBySide_114 : decode c_ySk_widenBySide 114 = .ok (.getfield 7, 3) := by decide +kernel
theorem d_Sk_widenBySide_117 : decode c_ySk_widenBySide 117 = .ok (.iload 7, 2) := by decide +kernel
theorem d_Sk_widenBySide_119 : decode c_ySk_widenBySide 119 = .ok (.iadd, 1) := by decide +kernel
theorem d_Sk_widenBySide_120 : decode c_ySk_widenBySide 120 = .ok (.invokevirtual 62, 3) := by decide +kernel
theorem d_Sk_widenBySide_123 : decode c_ySk_widenBySide 123 = .ok (.return_, 1) := by decide +kernel
set_option maxHeartbeats 4000000 in
set_option maxRecDepth 100000 in
theorem c_Stroke_widenBySide (l : Launch) (dC : Nat → ClassId) (dI : Nat → Nat → Nat) (hq : Nat) (a b c0 d t dx dy L2 gc lf rt aw : Int) (sz : Nat) (lf1 : -16777216 ≤ lf) (lf2 : lf ≤ 16777216) (rt1 : -16777216 ≤ rt) (rt2 : rt ≤ 16777216) (dx1 : -8192 ≤ dx) (dx2 : dx ≤ 8192) (dy1 : -8192 ≤ dy) (dy2 : dy ≤ 8192) (L1 : 0 ≤ L2) (L22 : L2 ≤ 134217728) (gc1 : 0 ≤ gc) (gc2 : gc ≤ 2097151) (a1 : -4096 ≤ a) (a2 : a ≤ 4096) (aw1 : -9000 ≤ aw) (aw2 : aw ≤ 9000) : Met l y_Sk_widenBySide w_Sk_widenBySide ({ frames := 3, cells := 0, slots := 0, locals := 69 }) (va_Pc [.ref hq, .int (iZ aw)] (zPm (dC, dI) vwCl [(hq, .inr (5, [.int (iZ a), .int (iZ b), .int (iZ c0), .int (iZ d), .int (iZ t), .long (lZ dx), .long (lZ dy), .long (lZ L2), .long (lZ gc), .int (iZ lf), .int (iZ rt)]))] [] sz)) (va_Qv (fun (u : Int × Int) => wdS dx dy L2 gc aw a lf rt u) (fun u => zB (dC, dI) vwCl [] (va_A [(hq, .inr (5, [.int (iZ a), .int (iZ b), .int (iZ c0), .int (iZ d), .int (iZ t), .long (lZ dx), .long (lZ dy), .long (lZ L2), .long (lZ gc), .int (iZ lf), .int (iZ rt)]))] sz) [(hq, .inr (5, [.int (iZ a), .int (iZ b), .int (iZ c0), .int (iZ d), .int (iZ t), .long (lZ dx), .long (lZ dy), .long (lZ L2), .long (lZ gc), .int (iZ u.1), .int (iZ u.2)]))]) (va_A [(hq, .inr (5, [.int (iZ a), .int (iZ b), .int (iZ c0), .int (iZ d), .int (iZ t), .long (lZ dx), .long (lZ dy), .long (lZ L2), .long (lZ gc), .int (iZ lf), .int (iZ rt)]))] sz)) 0 0 (va_A [(hq, .inr (5, [.int (iZ a), .int (iZ b), .int (iZ c0), .int (iZ d), .int (iZ t), .long (lZ dx), .long (lZ dy), .long (lZ L2), .long (lZ gc), .int (iZ lf), .int (iZ rt)]))] sz) := by
  refine Met.ofW (cc := c_ySk_widenBySide) (maxL := 8) (ret := none) (by decide) rfl ?_
  intro p e s m args below meth c s₁ B hml hv
  obtain ⟨rfl, hsz, hP, hK, hD0⟩ := hv
  have hx := B.exec
  have hb := B.bytes
  have hr := B.returns
  have hts0 := atoms_spec (ws := w_Sk_widenBySide) B.pre
  have hts : ∀ w ∈ gT, w.before _ s = true := fun w h => hts0 w (List.mem_cons_of_mem _ h)
  have hown : s.vm.findClass R_Sk = some m.cls := findClass_of_methodNamed B.named
  have hlocks := B.notSynchronized
  subst hsz
  have hD := hD0.self (sz := s.heap.size)
  generalize hAe : va_A [(hq, .inr (5, [.int (iZ a), .int (iZ b), .int (iZ c0), .int (iZ d), .int (iZ t), .long (lZ dx), .long (lZ dy), .long (lZ L2), .long (lZ gc), .int (iZ lf), .int (iZ rt)]))] s.heap.size = A at hD ⊢
  have hA : ∀ q : Nat, s.heap.size ≤ q → A q := fun q h => by rw [← hAe]; exact Or.inr h
  obtain ⟨H, hH⟩ : ∃ H, s.heap = H := ⟨_, rfl⟩
  have hS : va_S A s.heap H [] := by rw [← hH]; exact va_S.rf
  rw [hH] at hP
  rw [hH]
  have hl := lv_entry ([.ref hq, .int (iZ aw)]) (n := 8) (Nat.le_of_ble_eq_true rfl)
  rw [lg_entry_eq]
  generalize (lg_sl ([.ref hq, .int (iZ aw)]) ++ List.replicate (8 - (lg_sl ([.ref hq, .int (iZ aw)])).length) Slot.unset).toArray = ls at hl ⊢
  have hl : lv_has ls 8 [(0, .ref hq), (1, .int (iZ aw))] := hl
  have m1 := mul_ab (a := -aw) (b := dy) (A := 9000) (B := 8192) (by omega) (by omega) (by omega) (by omega)
  have m2 := mul_ab (a := aw) (b := dx) (A := 9000) (B := 8192) (by omega) (by omega) (by omega) (by omega)
  refine lv_iload_n hx hb d_Sk_widenBySide_0 rfl (lv_at hl 1 rfl) ?_
  refine zi_neg hx hb d_Sk_widenBySide_1 ?_
  refine zi_l hx hb d_Sk_widenBySide_2 (by omega) (by omega) ?_
  refine lv_aload_n hx hb d_Sk_widenBySide_3 rfl (lv_at hl 0 rfl) ?_
  refine va_get (D := (dC, dI)) (ci := 5) (v := .long (lZ dy)) (C := R_Sk) (T := T_Sk) (N := 11) hx hb hts wi_Sk hown hK hP 0 rfl rfl 6 (by decide) (hts _ t_317) (fun _ h9 => h9) rfl d_Sk_widenBySide_4 ?_
  refine zl_mul hx hb d_Sk_widenBySide_7 ?_
  refine zn_Z (fun bf e_bf => ?_)
  refine lv_lstore_n (lv' := [(2, .long (lZ bf)), (0, .ref hq), (1, .int (iZ aw))]) hx hb d_Sk_widenBySide_8 rfl hl (by decide) rfl (fun ls hl => ?_)
  refine lv_iload_n hx hb d_Sk_widenBySide_9 rfl (lv_at hl 2 rfl) ?_
  refine zi_l hx hb d_Sk_widenBySide_10 (by omega) (by omega) ?_
  refine lv_aload_n hx hb d_Sk_widenBySide_11 rfl (lv_at hl 1 rfl) ?_
  refine va_get (D := (dC, dI)) (ci := 5) (v := .long (lZ dx)) (C := R_Sk) (T := T_Sk) (N := 11) hx hb hts wi_Sk hown hK hP 0 rfl rfl 5 (by decide) (hts _ t_316) (fun _ h9 => h9) rfl d_Sk_widenBySide_12 ?_
  refine zl_mul hx hb d_Sk_widenBySide_15 ?_
  refine zn_Z (fun bs e_bs => ?_)
  refine lv_lstore (lv' := [(4, .long (lZ bs)), (2, .long (lZ bf)), (0, .ref hq), (1, .int (iZ aw))]) hx hb d_Sk_widenBySide_16 hl (by decide) rfl (fun ls hl => ?_)
  refine lv_aload_n hx hb d_Sk_widenBySide_18 rfl (lv_at hl 2 rfl) ?_
  refine va_get (D := (dC, dI)) (ci := 5) (v := .long (lZ dx)) (C := R_Sk) (T := T_Sk) (N := 11) hx hb hts wi_Sk hown hK hP 0 rfl rfl 5 (by decide) (hts _ t_316) (fun _ h9 => h9) rfl d_Sk_widenBySide_19 ?_
  refine lv_lload_n hx hb d_Sk_widenBySide_22 rfl (lv_at hl 1 rfl) ?_
  refine lv_lload_n hx hb d_Sk_widenBySide_23 rfl (lv_at hl 1 rfl) ?_
  refine lv_aload_n hx hb d_Sk_widenBySide_24 rfl (lv_at hl 2 rfl) ?_
  refine va_get (D := (dC, dI)) (ci := 5) (v := .long (lZ L2)) (C := R_Sk) (T := T_Sk) (N := 11) hx hb hts wi_Sk hown hK hP 0 rfl rfl 7 (by decide) (hts _ t_318) (fun _ h9 => h9) rfl d_Sk_widenBySide_25 ?_
  refine zl_add hx hb d_Sk_widenBySide_28 ?_
  refine vp_callSi (va_runS (As := [.long (lZ dx), .long (lZ bf), .long (lZ (bf + L2))]) (rest := []) ⟨hx, hb, hml, hown, hts⟩ (c_Reckoning_leastFactor l dC dI dx bf (bf + L2) (by first | omega | assumption) (by first | omega | assumption) (by first | omega | assumption) (by first | omega | assumption) (by first | omega | assumption) (by first | omega | assumption)) (va_cwS 3 hts (gS t_367 t_368 t_14 t_369) rfl rfl rfl (by decide +kernel) ⟨Nat.le_of_ble_eq_true rfl, Nat.le_of_ble_eq_true rfl⟩) ⟨zPr_blind, zPr_pre hP hK [] [] rfl rfl⟩ rfl rfl hl.1 rfl (lv_room (Nat.le_of_ble_eq_true rfl)) d_Sk_widenBySide_29 ⟨Nat.le_of_ble_eq_true rfl, Nat.le_of_ble_eq_true rfl⟩).run (fun r_29 q_29 => ?_)
  obtain ⟨k_29, rfl, q_29⟩ := q_29
  have r29a := q_29.1
  have r29b := q_29.2.1
  refine lv_aload_n hx hb d_Sk_widenBySide_32 rfl (lv_at hl 2 rfl) ?_
  refine va_get (D := (dC, dI)) (ci := 5) (v := .long (lZ dy)) (C := R_Sk) (T := T_Sk) (N := 11) hx hb hts wi_Sk hown hK hP 0 rfl rfl 6 (by decide) (hts _ t_317) (fun _ h9 => h9) rfl d_Sk_widenBySide_33 ?_
  refine lv_lload hx hb d_Sk_widenBySide_36 (lv_at hl 0 rfl) ?_
  refine lv_aload_n hx hb d_Sk_widenBySide_38 rfl (lv_at hl 2 rfl) ?_
  refine va_get (D := (dC, dI)) (ci := 5) (v := .long (lZ gc)) (C := R_Sk) (T := T_Sk) (N := 11) hx hb hts wi_Sk hown hK hP 0 rfl rfl 8 (by decide) (hts _ t_319) (fun _ h9 => h9) rfl d_Sk_widenBySide_39 ?_
  refine zl_sub hx hb d_Sk_widenBySide_42 ?_
  refine lv_lload hx hb d_Sk_widenBySide_43 (lv_at hl 0 rfl) ?_
  refine lv_aload_n hx hb d_Sk_widenBySide_45 rfl (lv_at hl 2 rfl) ?_
  refine va_get (D := (dC, dI)) (ci := 5) (v := .long (lZ gc)) (C := R_Sk) (T := T_Sk) (N := 11) hx hb hts wi_Sk hown hK hP 0 rfl rfl 8 (by decide) (hts _ t_319) (fun _ h9 => h9) rfl d_Sk_widenBySide_46 ?_
  refine zl_add hx hb d_Sk_widenBySide_49 ?_
  refine vp_callSi (va_runS (As := [.long (lZ dy), .long (lZ (bs - gc)), .long (lZ (bs + gc))]) (rest := [.int (iZ k_29)]) ⟨hx, hb, hml, hown, hts⟩ (c_Reckoning_leastFactor l dC dI dy (bs - gc) (bs + gc) (by first | omega | assumption) (by first | omega | assumption) (by first | omega | assumption) (by first | omega | assumption) (by first | omega | assumption) (by first | omega | assumption)) (va_cwS 3 hts (gS t_367 t_368 t_14 t_369) rfl rfl rfl (by decide +kernel) ⟨Nat.le_of_ble_eq_true rfl, Nat.le_of_ble_eq_true rfl⟩) ⟨zPr_blind, zPr_pre hP hK [] [] rfl rfl⟩ rfl rfl hl.1 rfl (lv_room (Nat.le_of_ble_eq_true rfl)) d_Sk_widenBySide_50 ⟨Nat.le_of_ble_eq_true rfl, Nat.le_of_ble_eq_true rfl⟩).run (fun r_50 q_50 => ?_)
  obtain ⟨k_50, rfl, q_50⟩ := q_50
  have r50a := q_50.1
  have r50b := q_50.2.1
  refine vp_callSi (va_runS (As := [.int (iZ k_29), .int (iZ k_50)]) (rest := []) ⟨hx, hb, hml, hown, hts⟩ (c_Math_maxi l dC dI k_29 k_50 (by first | omega | assumption) (by first | omega | assumption) (by first | omega | assumption) (by first | omega | assumption)) (va_cwS 2 hts (gS t_362 t_269 t_12 t_270) rfl rfl rfl (by decide +kernel) ⟨Nat.le_of_ble_eq_true rfl, Nat.le_of_ble_eq_true rfl⟩) ⟨zPr_blind, zPr_pre hP hK [] [] rfl rfl⟩ rfl rfl hl.1 rfl (lv_room (Nat.le_of_ble_eq_true rfl)) d_Sk_widenBySide_53 ⟨Nat.le_of_ble_eq_true rfl, Nat.le_of_ble_eq_true rfl⟩).run (fun r_53 q_53 => ?_)
  obtain rfl := q_53
  refine zn_z (fun fi e_fi => ?_)
  refine lv_istore (lv' := [(6, .int (iZ fi)), (4, .long (lZ bs)), (2, .long (lZ bf)), (0, .ref hq), (1, .int (iZ aw))]) hx hb d_Sk_widenBySide_56 hl (by decide) rfl (fun ls hl => ?_)
  refine lv_aload_n hx hb d_Sk_widenBySide_58 rfl (lv_at hl 3 rfl) ?_
  refine va_get (D := (dC, dI)) (ci := 5) (v := .long (lZ dx)) (C := R_Sk) (T := T_Sk) (N := 11) hx hb hts wi_Sk hown hK hP 0 rfl rfl 5 (by decide) (hts _ t_316) (fun _ h9 => h9) rfl d_Sk_widenBySide_59 ?_
  refine lv_lload_n hx hb d_Sk_widenBySide_62 rfl (lv_at hl 2 rfl) ?_
  refine lv_lload_n hx hb d_Sk_widenBySide_63 rfl (lv_at hl 2 rfl) ?_
  refine lv_aload_n hx hb d_Sk_widenBySide_64 rfl (lv_at hl 3 rfl) ?_
  refine va_get (D := (dC, dI)) (ci := 5) (v := .long (lZ L2)) (C := R_Sk) (T := T_Sk) (N := 11) hx hb hts wi_Sk hown hK hP 0 rfl rfl 7 (by decide) (hts _ t_318) (fun _ h9 => h9) rfl d_Sk_widenBySide_65 ?_
  refine zl_add hx hb d_Sk_widenBySide_68 ?_
  refine vp_callSi (va_runS (As := [.long (lZ dx), .long (lZ bf), .long (lZ (bf + L2))]) (rest := []) ⟨hx, hb, hml, hown, hts⟩ (c_Reckoning_greatestFactor l dC dI dx bf (bf + L2) (by first | omega | assumption) (by first | omega | assumption) (by first | omega | assumption) (by first | omega | assumption) (by first | omega | assumption) (by first | omega | assumption)) (va_cwS 3 hts (gS t_385 t_386 t_14 t_387) rfl rfl rfl (by decide +kernel) ⟨Nat.le_of_ble_eq_true rfl, Nat.le_of_ble_eq_true rfl⟩) ⟨zPr_blind, zPr_pre hP hK [] [] rfl rfl⟩ rfl rfl hl.1 rfl (lv_room (Nat.le_of_ble_eq_true rfl)) d_Sk_widenBySide_69 ⟨Nat.le_of_ble_eq_true rfl, Nat.le_of_ble_eq_true rfl⟩).run (fun r_69 q_69 => ?_)
  obtain ⟨k_69, rfl, q_69⟩ := q_69
  have r69a := q_69.1
  have r69b := q_69.2.1
  refine lv_aload_n hx hb d_Sk_widenBySide_72 rfl (lv_at hl 3 rfl) ?_
  refine va_get (D := (dC, dI)) (ci := 5) (v := .long (lZ dy)) (C := R_Sk) (T := T_Sk) (N := 11) hx hb hts wi_Sk hown hK hP 0 rfl rfl 6 (by decide) (hts _ t_317) (fun _ h9 => h9) rfl d_Sk_widenBySide_73 ?_
  refine lv_lload hx hb d_Sk_widenBySide_76 (lv_at hl 1 rfl) ?_
  refine lv_aload_n hx hb d_Sk_widenBySide_78 rfl (lv_at hl 3 rfl) ?_
  refine va_get (D := (dC, dI)) (ci := 5) (v := .long (lZ gc)) (C := R_Sk) (T := T_Sk) (N := 11) hx hb hts wi_Sk hown hK hP 0 rfl rfl 8 (by decide) (hts _ t_319) (fun _ h9 => h9) rfl d_Sk_widenBySide_79 ?_
  refine zl_sub hx hb d_Sk_widenBySide_82 ?_
  refine lv_lload hx hb d_Sk_widenBySide_83 (lv_at hl 1 rfl) ?_
  refine lv_aload_n hx hb d_Sk_widenBySide_85 rfl (lv_at hl 3 rfl) ?_
  refine va_get (D := (dC, dI)) (ci := 5) (v := .long (lZ gc)) (C := R_Sk) (T := T_Sk) (N := 11) hx hb hts wi_Sk hown hK hP 0 rfl rfl 8 (by decide) (hts _ t_319) (fun _ h9 => h9) rfl d_Sk_widenBySide_86 ?_
  refine zl_add hx hb d_Sk_widenBySide_89 ?_
  refine vp_callSi (va_runS (As := [.long (lZ dy), .long (lZ (bs - gc)), .long (lZ (bs + gc))]) (rest := [.int (iZ k_69)]) ⟨hx, hb, hml, hown, hts⟩ (c_Reckoning_greatestFactor l dC dI dy (bs - gc) (bs + gc) (by first | omega | assumption) (by first | omega | assumption) (by first | omega | assumption) (by first | omega | assumption) (by first | omega | assumption) (by first | omega | assumption)) (va_cwS 3 hts (gS t_385 t_386 t_14 t_387) rfl rfl rfl (by decide +kernel) ⟨Nat.le_of_ble_eq_true rfl, Nat.le_of_ble_eq_true rfl⟩) ⟨zPr_blind, zPr_pre hP hK [] [] rfl rfl⟩ rfl rfl hl.1 rfl (lv_room (Nat.le_of_ble_eq_true rfl)) d_Sk_widenBySide_90 ⟨Nat.le_of_ble_eq_true rfl, Nat.le_of_ble_eq_true rfl⟩).run (fun r_90 q_90 => ?_)
  obtain ⟨k_90, rfl, q_90⟩ := q_90
  have r90a := q_90.1
  have r90b := q_90.2.1
  refine vp_callSi (va_runS (As := [.int (iZ k_69), .int (iZ k_90)]) (rest := []) ⟨hx, hb, hml, hown, hts⟩ (c_Math_mini l dC dI k_69 k_90 (by first | omega | assumption) (by first | omega | assumption) (by first | omega | assumption) (by first | omega | assumption)) (va_cwS 2 hts (gS t_361 t_272 t_12 t_273) rfl rfl rfl (by decide +kernel) ⟨Nat.le_of_ble_eq_true rfl, Nat.le_of_ble_eq_true rfl⟩) ⟨zPr_blind, zPr_pre hP hK [] [] rfl rfl⟩ rfl rfl hl.1 rfl (lv_room (Nat.le_of_ble_eq_true rfl)) d_Sk_widenBySide_93 ⟨Nat.le_of_ble_eq_true rfl, Nat.le_of_ble_eq_true rfl⟩).run (fun r_93 q_93 => ?_)
  obtain rfl := q_93
  refine zn_z (fun la e_la => ?_)
  refine lv_istore (lv' := [(7, .int (iZ la)), (6, .int (iZ fi)), (4, .long (lZ bs)), (2, .long (lZ bf)), (0, .ref hq), (1, .int (iZ aw))]) hx hb d_Sk_widenBySide_96 hl (by decide) rfl (fun ls hl => ?_)
  have sd9 : sdS dx dy L2 gc aw fi la := ⟨k_29, k_50, k_69, k_90, by rw [← e_bf]; exact q_29, by rw [← e_bs]; exact q_50, by rw [← e_bf]; exact q_69, by rw [← e_bs]; exact q_90, e_fi, e_la⟩
  refine lv_iload hx hb d_Sk_widenBySide_98 (lv_at hl 1 rfl) ?_
  refine lv_iload hx hb d_Sk_widenBySide_100 (lv_at hl 0 rfl) ?_
  refine zi_gt (tgt := 123) hx hb d_Sk_widenBySide_102 (by decide) (by omega) (by omega) (by omega) (by omega) (fun c_102 => ?_) (fun c_102 => ?_)
  · exact W.vret hx hb hr (fun t ht hW => ⟨⟨((lf, rt)), rfl, ⟨fi, la, sd9, fun z => by omega, fun _ => rfl⟩, by rw [ht]; exact hP, va_K.moved hW.alike hK, hD⟩, hS.F ht⟩) hS.2.2 d_Sk_widenBySide_123
  · refine lv_aload_n hx hb d_Sk_widenBySide_105 rfl (lv_at hl 4 rfl) ?_
    refine lv_aload_n hx hb d_Sk_widenBySide_106 rfl (lv_at hl 4 rfl) ?_
    refine va_get (D := (dC, dI)) (ci := 5) (v := .int (iZ a)) (C := R_Sk) (T := T_Sk) (N := 11) hx hb hts wi_Sk hown hK hP 0 rfl rfl 0 (by decide) (hts _ t_311) (fun _ h9 => h9) rfl d_Sk_widenBySide_107 ?_
    refine lv_iload hx hb d_Sk_widenBySide_110 (lv_at hl 1 rfl) ?_
    refine zi_add hx hb d_Sk_widenBySide_112 ?_
    refine lv_aload_n hx hb d_Sk_widenBySide_113 rfl (lv_at hl 4 rfl) ?_
    refine va_get (D := (dC, dI)) (ci := 5) (v := .int (iZ a)) (C := R_Sk) (T := T_Sk) (N := 11) hx hb hts wi_Sk hown hK hP 0 rfl rfl 0 (by decide) (hts _ t_311) (fun _ h9 => h9) rfl d_Sk_widenBySide_114 ?_
    refine lv_iload hx hb d_Sk_widenBySide_117 (lv_at hl 0 rfl) ?_
    refine zi_add hx hb d_Sk_widenBySide_119 ?_
    refine zc_v (w1 := fun (u_120 : Unit) => [(hq, .inr (5, [.int (iZ a), .int (iZ b), .int (iZ c0), .int (iZ d), .int (iZ t), .long (lZ dx), .long (lZ dy), .long (lZ L2), .long (lZ gc), .int (iZ (min lf (a + fi))), .int (iZ (max rt (a + la)))]))]) (wr := []) (va_runV (As := [.int (iZ (a + fi)), .int (iZ (a + la))]) (rest := []) ⟨hx, hb, hml, hown, hts⟩ (c_Stroke_widen l dC dI hq a b c0 d t dx dy L2 gc lf rt (a + fi) (a + la) H.size (by first | omega | assumption) (by first | omega | assumption) (by first | omega | assumption) (by first | omega | assumption) (by first | omega | assumption) (by first | omega | assumption) (by first | omega | assumption) (by first | omega | assumption)) (cwV 2 hts (gV t_357 t_359 s_3 t_13 t_360) rfl rfl rfl (by decide +kernel) ⟨Nat.le_of_ble_eq_true rfl, Nat.le_of_ble_eq_true rfl⟩) ⟨zPm_blind, va_recv hK hP (ci := 5) (q0 := 0) rfl rfl, zPm_pre hP hD hK [0] [] rfl rfl rfl rfl⟩ rfl rfl hl.1 rfl (lv_room (Nat.le_of_ble_eq_true rfl)) d_Sk_widenBySide_120 ⟨Nat.le_of_ble_eq_true rfl, Nat.le_of_ble_eq_true rfl⟩) hP hD hS hA [0] [] rfl rfl rfl (by decide) (fun u_120 H locs q_120 hP hD hS => ?_)
    have hP : va_P (dC, dI) vwCl [(hq, .inr (5, [.int (iZ a), .int (iZ b), .int (iZ c0), .int (iZ d), .int (iZ t), .long (lZ dx), .long (lZ dy), .long (lZ L2), .long (lZ gc), .int (iZ (min lf (a + fi))), .int (iZ (max rt (a + la)))]))] H := hP
    have hD : va_D A [(hq, .inr (5, [.int (iZ a), .int (iZ b), .int (iZ c0), .int (iZ d), .int (iZ t), .long (lZ dx), .long (lZ dy), .long (lZ L2), .long (lZ gc), .int (iZ (min lf (a + fi))), .int (iZ (max rt (a + la)))]))] := hD
    exact W.vret hx hb hr (fun t ht hW => ⟨⟨((min lf (a + fi), max rt (a + la))), rfl, ⟨fi, la, sd9, fun _ => rfl, fun z => by omega⟩, by rw [ht]; exact hP, va_K.moved hW.alike hK, hD⟩, hS.F ht⟩) hS.2.2 d_Sk_widenBySide_123
theorem d_Sk_cross_0 : decode c_ySk_cross 0 = .ok (.aload_n 0, 1) := by decide +kernel
theorem d_Sk_cross_1 : decode c_ySk_cross 1 = .ok (.ldc 46, 2) := by decide +kernel
theorem d_Sk_cross_3 : decode c_ySk_cross 3 = .ok (.putfield 47, 3) := by decide +kernel
theorem d_Sk_cross_6 : decode c_ySk_cross 6 = .ok (.aload_n 0, 1) := by decide +kernel
theorem d_Sk_cross_7 : decode c_ySk_cross 7 = .ok (.ldc 50, 2) := by decide +kernel
theorem d_Sk_cross_9 : decode c_ySk_cross 9 = .ok (.putfield 51, 3) := by decide +kernel
theorem d_Sk_cross_12 : decode c_ySk_cross 12 = .ok (.aload_n 0, 1) := by decide +kernel
theorem d_Sk_cross_13 : decode c_ySk_cross 13 = .ok (.aload_n 0, 1) := by decide +kernel
theorem d_Sk_cross_14 : decode c_ySk_cross 14 = .ok (.getfield 7, 3) := by decide +kernel
theorem d_Sk_cross_17 : decode c_ySk_cross 17 = .ok (.iload_n 1, 1) := by decide +kernel
theorem d_Sk_cross_18 : decode c_ySk_cross 18 = .ok (.aload_n 0, 1) := by decide +kernel
theorem d_Sk_cross_19 : decode c_ySk_cross 19 = .ok (.getfield 13, 3) := by decide +kernel
theorem d_Sk_cross_22 : decode c_ySk_cross 22 = .ok (.isub, 1) := by decide +kernel
theorem d_Sk_cross_23 : decode c_ySk_cross 23 = .ok (.invokevirtual 54, 3) := by decide +kernel
theorem d_Sk_cross_26 : decode c_ySk_cross 26 = .ok (.aload_n 0, 1) := by decide +kernel
theorem d_Sk_cross_27 : decode c_ySk_cross 27 = .ok (.aload_n 0, 1) := by decide +kernel
theorem d_Sk_cross_28 : decode c_ySk_cross 28 = .ok (.getfield 16, 3) := by decide +kernel
theorem d_Sk_cross_31 : decode c_ySk_cross 31 = .ok (.iload_n 1, 1) := by decide +kernel
theorem d_Sk_cross_32 : decode c_ySk_cross 32 = .ok (.aload_n 0, 1) := by decide +kernel
theorem d_Sk_cross_33 : decode c_ySk_cross 33 = .ok (.getfield 19, 3) := by decide +kernel
theorem d_Sk_cross_36 : decode c_ySk_cross 36 = .ok (.isub, 1) := by decide +kernel
theorem d_Sk_cross_37 : decode c_ySk_cross 37 = .ok (.invokevirtual 54, 3) := by decide +kernel
theorem d_Sk_cross_40 : decode c_ySk_cross 40 = .ok (.aload_n 0, 1) := by decide +kernel
theorem d_Sk_cross_41 : decode c_ySk_cross 41 = .ok (.getfield 32, 3) := by decide +kernel
theorem d_Sk_cross_44 : decode c_ySk_cross 44 = .ok (.lconst 0, 1) := by decide +kernel
theorem d_Sk_cross_45 : decode c_ySk_cross 45 = .ok (.lcmp, 1) := by decide +kernel
theorem d_Sk_cross_46 : decode c_ySk_cross 46 = .ok (.ifCond .le 13, 3) := by decide +kernel
theorem d_Sk_cross_49 : decode c_ySk_cross 49 = .ok (.aload_n 0, 1) := by decide +kernel
theorem d_Sk_cross_50 : decode c_ySk_cross 50 = .ok (.iload_n 1, 1) := by decide +kernel
theorem d_Sk_cross_51 : decode c_ySk_cross 51 = .ok (.aload_n 0, 1) := by decide +kernel
theorem d_Sk_cross_52 : decode c_ySk_cross 52 = .ok (.getfield 13, 3) := by decide +kernel
theorem d_Sk_cross_55 : decode c_ySk_cross 55 = .ok (.isub, 1) := by decide +kernel
theorem d_Sk_cross_56 : decode c_ySk_cross 56 = .ok (.invokevirtual 58, 3) := by decide +kernel
theorem d_Sk_cross_59 : decode c_ySk_cross 59 = .ok (.return_, 1) := by decide +kernel
set_option maxHeartbeats 4000000 in
set_option maxRecDepth 100000 in
theorem c_Stroke_cross (l : Launch) (dC : Nat → ClassId) (dI : Nat → Nat → Nat) (hq : Nat) (a b c0 d t dx dy L2 gc lf rt row : Int) (sz : Nat) (t1 : 1 ≤ t) (t2 : t ≤ 200) (dx1 : -8192 ≤ dx) (dx2 : dx ≤ 8192) (dy1 : -8192 ≤ dy) (dy2 : dy ≤ 8192) (L1 : 0 ≤ L2) (L22 : L2 ≤ 134217728) (gc1 : 0 ≤ gc) (gc2 : gc ≤ 2097151) (a1 : -4096 ≤ a) (a2 : a ≤ 4096) (b1 : -4096 ≤ b) (b2 : b ≤ 4096) (c1 : -4096 ≤ c0) (c2 : c0 ≤ 4096) (d1 : -4096 ≤ d) (d2 : d ≤ 4096) (r1 : 0 ≤ row) (r2 : row ≤ 4300) (edx : dx = c0 - a) (edy : dy = d - b) (eL : L2 = dx * dx + dy * dy) (g1 : gc * gc ≤ t * t * L2 / 4) (g2 : t * t * L2 / 4 < (gc + 1) * (gc + 1)) : Met l y_Sk_cross w_Sk_cross ({ frames := 4, cells := 0, slots := 0, locals := 96 }) (va_Pc [.ref hq, .int (iZ row)] (zPm (dC, dI) vwCl [(hq, .inr (5, [.int (iZ a), .int (iZ b), .int (iZ c0), .int (iZ d), .int (iZ t), .long (lZ dx), .long (lZ dy), .long (lZ L2), .long (lZ gc), .int (iZ lf), .int (iZ rt)]))] [] sz)) (va_Qv (fun (u : Int × Int) => (∀ p9, -500000 ≤ p9 → p9 ≤ 500000 → (u.1 ≤ p9 ∧ p9 ≤ u.2 ↔ lnB (c0 - a) (d - b) t (p9 - a) (row - b))) ∧ -1048576 ≤ u.1 ∧ u.1 ≤ 1048576 ∧ -1048576 ≤ u.2 ∧ u.2 ≤ 1048576) (fun u => zB (dC, dI) vwCl [] (va_A [(hq, .inr (5, [.int (iZ a), .int (iZ b), .int (iZ c0), .int (iZ d), .int (iZ t), .long (lZ dx), .long (lZ dy), .long (lZ L2), .long (lZ gc), .int (iZ lf), .int (iZ rt)]))] sz) [(hq, .inr (5, [.int (iZ a), .int (iZ b), .int (iZ c0), .int (iZ d), .int (iZ t), .long (lZ dx), .long (lZ dy), .long (lZ L2), .long (lZ gc), .int (iZ u.1), .int (iZ u.2)]))]) (va_A [(hq, .inr (5, [.int (iZ a), .int (iZ b), .int (iZ c0), .int (iZ d), .int (iZ t), .long (lZ dx), .long (lZ dy), .long (lZ L2), .long (lZ gc), .int (iZ lf), .int (iZ rt)]))] sz)) 0 0 (va_A [(hq, .inr (5, [.int (iZ a), .int (iZ b), .int (iZ c0), .int (iZ d), .int (iZ t), .long (lZ dx), .long (lZ dy), .long (lZ L2), .long (lZ gc), .int (iZ lf), .int (iZ rt)]))] sz) := by
  refine Met.ofW (cc := c_ySk_cross) (maxL := 2) (ret := none) (by decide) rfl ?_
  intro p e s m args below meth c s₁ B hml hv
  obtain ⟨rfl, hsz, hP, hK, hD0⟩ := hv
  have hx := B.exec
  have hb := B.bytes
  have hr := B.returns
  have hts0 := atoms_spec (ws := w_Sk_cross) B.pre
  have hts : ∀ w ∈ gT, w.before _ s = true := fun w h => hts0 w (List.mem_cons_of_mem _ h)
  have hown : s.vm.findClass R_Sk = some m.cls := findClass_of_methodNamed B.named
  have hlocks := B.notSynchronized
  subst hsz
  have hD := hD0.self (sz := s.heap.size)
  generalize hAe : va_A [(hq, .inr (5, [.int (iZ a), .int (iZ b), .int (iZ c0), .int (iZ d), .int (iZ t), .long (lZ dx), .long (lZ dy), .long (lZ L2), .long (lZ gc), .int (iZ lf), .int (iZ rt)]))] s.heap.size = A at hD ⊢
  have hA : ∀ q : Nat, s.heap.size ≤ q → A q := fun q h => by rw [← hAe]; exact Or.inr h
  obtain ⟨H, hH⟩ : ∃ H, s.heap = H := ⟨_, rfl⟩
  have hS : va_S A s.heap H [] := by rw [← hH]; exact va_S.rf
  rw [hH] at hP
  rw [hH]
  have hl := lv_entry ([.ref hq, .int (iZ row)]) (n := 2) (Nat.le_of_ble_eq_true rfl)
  rw [lg_entry_eq]
  generalize (lg_sl ([.ref hq, .int (iZ row)]) ++ List.replicate (2 - (lg_sl ([.ref hq, .int (iZ row)])).length) Slot.unset).toArray = ls at hl ⊢
  have hl : lv_has ls 2 [(0, .ref hq), (1, .int (iZ row))] := hl
  refine lv_aload_n hx hb d_Sk_cross_0 rfl (lv_at hl 0 rfl) ?_
  refine lv_ldc (v := iZ (1048576)) hx hb hown (hts _ t_351) d_Sk_cross_1 ?_
  refine va_put (D := (dC, dI)) (ci := 5) (v := .int (iZ 1048576)) (ty := .int) (C := R_Sk) (T := T_Sk) (N := 11) hx hb hts wi_Sk ty_Sk ty_Sk_ok nd_Sk hown hK hP hD hS 0 rfl rfl 9 (by decide) (hts _ t_320) (fun _ h9 => h9) rfl (by decide +kernel) rfl rfl (Nat.le_of_ble_eq_true rfl) d_Sk_cross_3 (fun H locs hP hD hS => ?_)
  have hP : va_P (dC, dI) vwCl [(hq, .inr (5, [.int (iZ a), .int (iZ b), .int (iZ c0), .int (iZ d), .int (iZ t), .long (lZ dx), .long (lZ dy), .long (lZ L2), .long (lZ gc), .int (iZ 1048576), .int (iZ rt)]))] H := hP
  have hD : va_D A [(hq, .inr (5, [.int (iZ a), .int (iZ b), .int (iZ c0), .int (iZ d), .int (iZ t), .long (lZ dx), .long (lZ dy), .long (lZ L2), .long (lZ gc), .int (iZ 1048576), .int (iZ rt)]))] := hD
  refine lv_aload_n hx hb d_Sk_cross_6 rfl (lv_at hl 0 rfl) ?_
  refine lv_ldc (v := iZ (-1048576)) hx hb hown (hts _ t_352) d_Sk_cross_7 ?_
  refine va_put (D := (dC, dI)) (ci := 5) (v := .int (iZ (-1048576))) (ty := .int) (C := R_Sk) (T := T_Sk) (N := 11) hx hb hts wi_Sk ty_Sk ty_Sk_ok nd_Sk hown hK hP hD hS 0 rfl rfl 10 (by decide) (hts _ t_322) (fun _ h9 => h9) rfl (by decide +kernel) rfl rfl (Nat.le_of_ble_eq_true rfl) d_Sk_cross_9 (fun H locs hP hD hS => ?_)
  have hP : va_P (dC, dI) vwCl [(hq, .inr (5, [.int (iZ a), .int (iZ b), .int (iZ c0), .int (iZ d), .int (iZ t), .long (lZ dx), .long (lZ dy), .long (lZ L2), .long (lZ gc), .int (iZ 1048576), .int (iZ (-1048576))]))] H := hP
  have hD : va_D A [(hq, .inr (5, [.int (iZ a), .int (iZ b), .int (iZ c0), .int (iZ d), .int (iZ t), .long (lZ dx), .long (lZ dy), .long (lZ L2), .long (lZ gc), .int (iZ 1048576), .int (iZ (-1048576))]))] := hD
  refine lv_aload_n hx hb d_Sk_cross_12 rfl (lv_at hl 0 rfl) ?_
  refine lv_aload_n hx hb d_Sk_cross_13 rfl (lv_at hl 0 rfl) ?_
  refine va_get (D := (dC, dI)) (ci := 5) (v := .int (iZ a)) (C := R_Sk) (T := T_Sk) (N := 11) hx hb hts wi_Sk hown hK hP 0 rfl rfl 0 (by decide) (hts _ t_311) (fun _ h9 => h9) rfl d_Sk_cross_14 ?_
  refine lv_iload_n hx hb d_Sk_cross_17 rfl (lv_at hl 1 rfl) ?_
  refine lv_aload_n hx hb d_Sk_cross_18 rfl (lv_at hl 0 rfl) ?_
  refine va_get (D := (dC, dI)) (ci := 5) (v := .int (iZ b)) (C := R_Sk) (T := T_Sk) (N := 11) hx hb hts wi_Sk hown hK hP 0 rfl rfl 1 (by decide) (hts _ t_312) (fun _ h9 => h9) rfl d_Sk_cross_19 ?_
  refine zi_sub hx hb d_Sk_cross_22 ?_
  refine zc_v (w1 := fun (u_23 : Int × Int) => [(hq, .inr (5, [.int (iZ a), .int (iZ b), .int (iZ c0), .int (iZ d), .int (iZ t), .long (lZ dx), .long (lZ dy), .long (lZ L2), .long (lZ gc), .int (iZ u_23.1), .int (iZ u_23.2)]))]) (wr := []) (va_runV (As := [.int (iZ a), .int (iZ (row - b))]) (rest := []) ⟨hx, hb, hml, hown, hts⟩ (c_Stroke_widenByEnd l dC dI hq a b c0 d t dx dy L2 gc 1048576 (-1048576) a (row - b) H.size (by first | omega | assumption) (by first | omega | assumption) (by first | omega | assumption) (by first | omega | assumption) (by first | omega | assumption) (by first | omega | assumption) (by first | omega | assumption) (by first | omega | assumption) (by first | omega | assumption) (by first | omega | assumption)) (cwV 2 hts (gV t_353 t_355 s_2 t_13 t_356) rfl rfl rfl (by decide +kernel) ⟨Nat.le_of_ble_eq_true rfl, Nat.le_of_ble_eq_true rfl⟩) ⟨zPm_blind, va_recv hK hP (ci := 5) (q0 := 0) rfl rfl, zPm_pre hP hD hK [0] [] rfl rfl rfl rfl⟩ rfl rfl hl.1 rfl (lv_room (Nat.le_of_ble_eq_true rfl)) d_Sk_cross_23 ⟨Nat.le_of_ble_eq_true rfl, Nat.le_of_ble_eq_true rfl⟩) hP hD hS hA [0] [] rfl rfl rfl (by decide) (fun u_23 H locs q_23 hP hD hS => ?_)
  have hP : va_P (dC, dI) vwCl [(hq, .inr (5, [.int (iZ a), .int (iZ b), .int (iZ c0), .int (iZ d), .int (iZ t), .long (lZ dx), .long (lZ dy), .long (lZ L2), .long (lZ gc), .int (iZ u_23.1), .int (iZ u_23.2)]))] H := hP
  have hD : va_D A [(hq, .inr (5, [.int (iZ a), .int (iZ b), .int (iZ c0), .int (iZ d), .int (iZ t), .long (lZ dx), .long (lZ dy), .long (lZ L2), .long (lZ gc), .int (iZ u_23.1), .int (iZ u_23.2)]))] := hD
  have v23 := hv_in (we_hv t1 t2 a1 a2 hv_0 q_23)
  refine lv_aload_n hx hb d_Sk_cross_26 rfl (lv_at hl 0 rfl) ?_
  refine lv_aload_n hx hb d_Sk_cross_27 rfl (lv_at hl 0 rfl) ?_
  refine va_get (D := (dC, dI)) (ci := 5) (v := .int (iZ c0)) (C := R_Sk) (T := T_Sk) (N := 11) hx hb hts wi_Sk hown hK hP 0 rfl rfl 2 (by decide) (hts _ t_313) (fun _ h9 => h9) rfl d_Sk_cross_28 ?_
  refine lv_iload_n hx hb d_Sk_cross_31 rfl (lv_at hl 1 rfl) ?_
  refine lv_aload_n hx hb d_Sk_cross_32 rfl (lv_at hl 0 rfl) ?_
  refine va_get (D := (dC, dI)) (ci := 5) (v := .int (iZ d)) (C := R_Sk) (T := T_Sk) (N := 11) hx hb hts wi_Sk hown hK hP 0 rfl rfl 3 (by decide) (hts _ t_314) (fun _ h9 => h9) rfl d_Sk_cross_33 ?_
  refine zi_sub hx hb d_Sk_cross_36 ?_
  refine zc_v (w1 := fun (u_37 : Int × Int) => [(hq, .inr (5, [.int (iZ a), .int (iZ b), .int (iZ c0), .int (iZ d), .int (iZ t), .long (lZ dx), .long (lZ dy), .long (lZ L2), .long (lZ gc), .int (iZ u_37.1), .int (iZ u_37.2)]))]) (wr := []) (va_runV (As := [.int (iZ c0), .int (iZ (row - d))]) (rest := []) ⟨hx, hb, hml, hown, hts⟩ (c_Stroke_widenByEnd l dC dI hq a b c0 d t dx dy L2 gc u_23.1 u_23.2 c0 (row - d) H.size (by first | omega | assumption) (by first | omega | assumption) (by first | omega | assumption) (by first | omega | assumption) (by first | omega | assumption) (by first | omega | assumption) (by first | omega | assumption) (by first | omega | assumption) (by first | omega | assumption) (by first | omega | assumption)) (cwV 2 hts (gV t_353 t_355 s_2 t_13 t_356) rfl rfl rfl (by decide +kernel) ⟨Nat.le_of_ble_eq_true rfl, Nat.le_of_ble_eq_true rfl⟩) ⟨zPm_blind, va_recv hK hP (ci := 5) (q0 := 0) rfl rfl, zPm_pre hP hD hK [0] [] rfl rfl rfl rfl⟩ rfl rfl hl.1 rfl (lv_room (Nat.le_of_ble_eq_true rfl)) d_Sk_cross_37 ⟨Nat.le_of_ble_eq_true rfl, Nat.le_of_ble_eq_true rfl⟩) hP hD hS hA [0] [] rfl rfl rfl (by decide) (fun u_37 H locs q_37 hP hD hS => ?_)
  have hP : va_P (dC, dI) vwCl [(hq, .inr (5, [.int (iZ a), .int (iZ b), .int (iZ c0), .int (iZ d), .int (iZ t), .long (lZ dx), .long (lZ dy), .long (lZ L2), .long (lZ gc), .int (iZ u_37.1), .int (iZ u_37.2)]))] H := hP
  have hD : va_D A [(hq, .inr (5, [.int (iZ a), .int (iZ b), .int (iZ c0), .int (iZ d), .int (iZ t), .long (lZ dx), .long (lZ dy), .long (lZ L2), .long (lZ gc), .int (iZ u_37.1), .int (iZ u_37.2)]))] := hD
  have v37 := hv_in (we_hv t1 t2 c1 c2 (we_hv t1 t2 a1 a2 hv_0 q_23) q_37)
  refine lv_aload_n hx hb d_Sk_cross_40 rfl (lv_at hl 0 rfl) ?_
  refine va_get (D := (dC, dI)) (ci := 5) (v := .long (lZ L2)) (C := R_Sk) (T := T_Sk) (N := 11) hx hb hts wi_Sk hown hK hP 0 rfl rfl 7 (by decide) (hts _ t_318) (fun _ h9 => h9) rfl d_Sk_cross_41 ?_
  refine lv_lconst (v := lZ 0) hx hb d_Sk_cross_44 (by decide) ?_
  refine zl_le (tgt := 59) hx hb d_Sk_cross_45 d_Sk_cross_46 (by decide) (by omega) (by omega) (by omega) (by omega) (fun c_45 => ?_) (fun c_45 => ?_)
  · subst edx
    subst edy
    subst eL
    exact W.vret hx hb hr (fun t ht hW => ⟨⟨((u_37.1, u_37.2)), rfl, cr_fin t1 t2 a1 a2 b1 b2 c1 c2 d1 d2 (by omega) (by omega) gc1 g1 g2 q_23 q_37 (Or.inr ⟨by omega, rfl⟩), by rw [ht]; exact hP, va_K.moved hW.alike hK, hD⟩, hS.F ht⟩) hS.2.2 d_Sk_cross_59
  · refine lv_aload_n hx hb d_Sk_cross_49 rfl (lv_at hl 0 rfl) ?_
    refine lv_iload_n hx hb d_Sk_cross_50 rfl (lv_at hl 1 rfl) ?_
    refine lv_aload_n hx hb d_Sk_cross_51 rfl (lv_at hl 0 rfl) ?_
    refine va_get (D := (dC, dI)) (ci := 5) (v := .int (iZ b)) (C := R_Sk) (T := T_Sk) (N := 11) hx hb hts wi_Sk hown hK hP 0 rfl rfl 1 (by decide) (hts _ t_312) (fun _ h9 => h9) rfl d_Sk_cross_52 ?_
    refine zi_sub hx hb d_Sk_cross_55 ?_
    refine zc_v (w1 := fun (u_56 : Int × Int) => [(hq, .inr (5, [.int (iZ a), .int (iZ b), .int (iZ c0), .int (iZ d), .int (iZ t), .long (lZ dx), .long (lZ dy), .long (lZ L2), .long (lZ gc), .int (iZ u_56.1), .int (iZ u_56.2)]))]) (wr := []) (va_runV (As := [.int (iZ (row - b))]) (rest := []) ⟨hx, hb, hml, hown, hts⟩ (c_Stroke_widenBySide l dC dI hq a b c0 d t dx dy L2 gc u_37.1 u_37.2 (row - b) H.size (by first | omega | assumption) (by first | omega | assumption) (by first | omega | assumption) (by first | omega | assumption) (by first | omega | assumption) (by first | omega | assumption) (by first | omega | assumption) (by first | omega | assumption) (by first | omega | assumption) (by first | omega | assumption) (by first | omega | assumption) (by first | omega | assumption) (by first | omega | assumption) (by first | omega | assumption) (by first | omega | assumption) (by first | omega | assumption)) (cwV 1 hts (gV t_363 t_365 s_4 t_13 t_366) rfl rfl rfl (by decide +kernel) ⟨Nat.le_of_ble_eq_true rfl, Nat.le_of_ble_eq_true rfl⟩) ⟨zPm_blind, va_recv hK hP (ci := 5) (q0 := 0) rfl rfl, zPm_pre hP hD hK [0] [] rfl rfl rfl rfl⟩ rfl rfl hl.1 rfl (lv_room (Nat.le_of_ble_eq_true rfl)) d_Sk_cross_56 ⟨Nat.le_of_ble_eq_true rfl, Nat.le_of_ble_eq_true rfl⟩) hP hD hS hA [0] [] rfl rfl rfl (by decide) (fun u_56 H locs q_56 hP hD hS => ?_)
    have hP : va_P (dC, dI) vwCl [(hq, .inr (5, [.int (iZ a), .int (iZ b), .int (iZ c0), .int (iZ d), .int (iZ t), .long (lZ dx), .long (lZ dy), .long (lZ L2), .long (lZ gc), .int (iZ u_56.1), .int (iZ u_56.2)]))] H := hP
    have hD : va_D A [(hq, .inr (5, [.int (iZ a), .int (iZ b), .int (iZ c0), .int (iZ d), .int (iZ t), .long (lZ dx), .long (lZ dy), .long (lZ L2), .long (lZ gc), .int (iZ u_56.1), .int (iZ u_56.2)]))] := hD
    subst edx
    subst edy
    subst eL
    exact W.vret hx hb hr (fun t ht hW => ⟨⟨((u_56.1, u_56.2)), rfl, cr_fin t1 t2 a1 a2 b1 b2 c1 c2 d1 d2 (by omega) (by omega) gc1 g1 g2 q_23 q_37 (Or.inl ⟨by omega, q_56⟩), by rw [ht]; exact hP, va_K.moved hW.alike hK, hD⟩, hS.F ht⟩) hS.2.2 d_Sk_cross_59
