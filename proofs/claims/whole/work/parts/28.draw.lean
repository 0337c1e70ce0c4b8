/-! the reference draws dot by dot -/
def dwP (P : Int → Int → Bool) (x y px py : Int) : Bool := P px py && decide (py < y ∨ (py = y ∧ px < x))
def dwC (w h mn : Int) (P pic : Int → Int → Bool) (x y : Int) : Int → Int → Bool := drw mn (fun px py => onB w h px py && dwP P x y px py) pic
def dwI (w h mn : Int) (P pic : Int → Int → Bool) (K : Int → Int32) (x y n : Int) : Prop := RepM K (dwC w h mn P pic x y) ∧ n = cnt w h (dwP P x y)
theorem dw_ext {w h mn : Int} {P pic : Int → Int → Bool} {K : Int → Int32} {x y n x2 y2 : Int} (q : dwI w h mn P pic K x y n) (he : ∀ px py, onB w h px py = true → dwP P x y px py = dwP P x2 y2 px py) : dwI w h mn P pic K x2 y2 n := by
  have e1 : dwC w h mn P pic x y = dwC w h mn P pic x2 y2 := by
    unfold dwC; apply drw_ext; intro px py
    cases o : onB w h px py
    · rfl
    · rw [he px py o]
  unfold dwI; rw [← e1]
  exact ⟨q.1, by rw [q.2]; exact cnt_ext (fun px py a b c d => he px py (decide_eq_true ⟨a, b, c, d⟩))⟩
theorem dw_0 {w h mn : Int} {P pic : Int → Int → Bool} {K : Int → Int32} (hM : RepM K pic) : dwI w h mn P pic K 0 0 0 := by
  have f : ∀ px py, onB w h px py = true → dwP P 0 0 px py = false := fun px py o => by
    have o := of_decide_eq_true o
    unfold dwP; rw [decide_eq_false (by omega), Bool.and_false]
  refine ⟨?_, (cnt_no (fun px py a b c d => f px py (decide_eq_true ⟨a, b, c, d⟩))).symm⟩
  unfold dwC; rw [drw_no (fun px py => by cases o : onB w h px py; rfl; rw [f px py o]; rfl)]; exact hM
theorem dw_row {w h mn : Int} {P pic : Int → Int → Bool} {K : Int → Int32} {x y n : Int} (q : dwI w h mn P pic K x y n) (hx : w ≤ x) : dwI w h mn P pic K 0 (y + 1) n :=
  dw_ext q (fun px py o => by have o := of_decide_eq_true o; unfold dwP; congr 1; exact decide_eq_decide.mpr (by omega))
theorem dw_no {w h mn : Int} {P pic : Int → Int → Bool} {K : Int → Int32} {x y n : Int} (q : dwI w h mn P pic K x y n) (hp : P x y = false) : dwI w h mn P pic K (x + 1) y n :=
  dw_ext q (fun px py o => by
    unfold dwP
    by_cases e : px = x ∧ py = y
    · rw [e.1, e.2, hp, Bool.false_and, Bool.false_and]
    · congr 1; exact decide_eq_decide.mpr (by omega))
theorem dw_end {w h mn : Int} {P pic : Int → Int → Bool} {K : Int → Int32} {x y n : Int} (q : dwI w h mn P pic K x y n) (hy : h ≤ y) : n = cnt w h P ∧ RepM K (drw mn (fun px py => onB w h px py && P px py) pic) := by
  have f : ∀ px py, onB w h px py = true → dwP P x y px py = P px py := fun px py o => by
    have o := of_decide_eq_true o
    unfold dwP; rw [decide_eq_true (by omega), Bool.and_true]
  refine ⟨by rw [q.2]; exact cnt_ext (fun px py a b c d => f px py (decide_eq_true ⟨a, b, c, d⟩)), ?_⟩
  have e1 : dwC w h mn P pic x y = drw mn (fun px py => onB w h px py && P px py) pic := by
    unfold dwC; apply drw_ext; intro px py
    cases o : onB w h px py
    · rfl
    · rw [f px py o]
  rw [← e1]; exact q.1
theorem dw_cur {w h mn : Int} {P pic : Int → Int → Bool} (x y : Int) : dwC w h mn P pic x y x y = pic x y := by
  show (if (onB w h x y && (P x y && decide (y < y ∨ (y = y ∧ x < x)))) = true then flB mn (pic x y) else pic x y) = pic x y
  rw [decide_eq_false (show ¬ (y < y ∨ (y = y ∧ x < x)) by omega), Bool.and_false, Bool.and_false, if_neg (by decide)]
theorem dw_off {w h mn : Int} {P pic : Int → Int → Bool} (hO : Off w h pic) (x y : Int) : Off w h (dwC w h mn P pic x y) := by
  intro px py o
  show (if (onB w h px py && dwP P x y px py) = true then flB mn (pic px py) else pic px py) = false
  rw [o, Bool.false_and, if_neg (by decide)]; exact hO px py o
theorem cnt_dot {w h x y : Int} (x0 : 0 ≤ x) (x1 : x < w) (y0 : 0 ≤ y) (y1 : y < h) : cnt w h (fun px py => decide (px = x ∧ py = y)) = 1 := by
  have e := boxN_cnt (w := w) (h := h) (by omega) (by omega) x y x y
  rw [cnt_ext (T := bxB x y x y) (fun px py _ _ _ _ => by unfold bxB; exact decide_eq_decide.mpr (by omega)), ← e]
  unfold boxN
  rw [if_neg (by omega), show min x (w - 1) - max x 0 + 1 = 1 by omega, show min y (h - 1) - max y 0 + 1 = 1 by omega]; rfl
theorem dw_cnt {w h : Int} {P : Int → Int → Bool} {x y : Int} (x0 : 0 ≤ x) (x1 : x < w) (y0 : 0 ≤ y) (y1 : y < h) (hp : P x y = true) : cnt w h (dwP P x y) + 1 = cnt w h (dwP P (x + 1) y) := by
  have e2 : cnt w h (dwP P (x + 1) y) = cnt w h (fun px py => dwP P x y px py || decide (px = x ∧ py = y)) := by
    apply cnt_ext; intro px py _ _ _ _
    show (P px py && decide (py < y ∨ (py = y ∧ px < x + 1))) = ((P px py && decide (py < y ∨ (py = y ∧ px < x))) || decide (px = x ∧ py = y))
    by_cases e : px = x ∧ py = y
    · rw [decide_eq_true e, e.1, e.2, hp, decide_eq_true (show y < y ∨ (y = y ∧ x < x + 1) by omega), Bool.or_true]; rfl
    · rw [decide_eq_false e, Bool.or_false]; congr 1; exact decide_eq_decide.mpr (by omega)
  rw [e2, cnt_or, cnt_dot x0 x1 y0 y1]
  intro px py _ _ _ _ q
  unfold dwP at q; rw [Bool.and_eq_true] at q
  have := of_decide_eq_true q.2
  exact decide_eq_false (by omega)
theorem dw_new {w h mn : Int} {P pic : Int → Int → Bool} {x y : Int} (x0 : 0 ≤ x) (x1 : x < w) (y0 : 0 ≤ y) (y1 : y < h) (hp : P x y = true) (px py : Int) : dwC w h mn P pic (x + 1) y px py = if px = x ∧ py = y then flB mn (pic px py) else dwC w h mn P pic x y px py := by
  show (if (onB w h px py && (P px py && decide (py < y ∨ (py = y ∧ px < x + 1)))) = true then flB mn (pic px py) else pic px py) = if px = x ∧ py = y then flB mn (pic px py) else (if (onB w h px py && (P px py && decide (py < y ∨ (py = y ∧ px < x)))) = true then flB mn (pic px py) else pic px py)
  by_cases e : px = x ∧ py = y
  · rw [if_pos e, e.1, e.2, hp, show onB w h x y = true from decide_eq_true ⟨x0, x1, y0, y1⟩, decide_eq_true (show y < y ∨ (y = y ∧ x < x + 1) by omega)]; rfl
  · rw [if_neg e]
    rw [show decide (py < y ∨ (py = y ∧ px < x + 1)) = decide (py < y ∨ (py = y ∧ px < x)) from decide_eq_decide.mpr (by omega)]
theorem dw_tog {w h mn : Int} {P pic : Int → Int → Bool} {K u : Int → Int32} {x y n : Int} (q : dwI w h mn P pic K x y n) (x0 : 0 ≤ x) (x1 : x < w) (y0 : 0 ≤ y) (y1 : y < h) (hp : P x y = true) (hu : RepM u (tog (dwC w h mn P pic x y) x y)) (hf : flB mn (pic x y) = !pic x y) : dwI w h mn P pic u (x + 1) y (n + 1) := by
  refine ⟨?_, by rw [q.2]; exact dw_cnt x0 x1 y0 y1 hp⟩
  have e1 : dwC w h mn P pic (x + 1) y = tog (dwC w h mn P pic x y) x y := by
    funext px py
    rw [dw_new x0 x1 y0 y1 hp]
    unfold tog
    by_cases e : px = x ∧ py = y
    · rw [if_pos e, if_pos e, e.1, e.2, hf, dw_cur]
    · rw [if_neg e, if_neg e]
  rw [e1]; exact hu
theorem dw_keep {w h mn : Int} {P pic : Int → Int → Bool} {K : Int → Int32} {x y n : Int} (q : dwI w h mn P pic K x y n) (x0 : 0 ≤ x) (x1 : x < w) (y0 : 0 ≤ y) (y1 : y < h) (hp : P x y = true) (hf : flB mn (pic x y) = pic x y) : dwI w h mn P pic K (x + 1) y (n + 1) := by
  refine ⟨?_, by rw [q.2]; exact dw_cnt x0 x1 y0 y1 hp⟩
  have e1 : dwC w h mn P pic (x + 1) y = dwC w h mn P pic x y := by
    funext px py
    rw [dw_new x0 x1 y0 y1 hp]
    by_cases e : px = x ∧ py = y
    · rw [if_pos e, e.1, e.2, hf, dw_cur]
    · rw [if_neg e]
  rw [e1]; exact q.1
theorem fl_2 {mn : Int} (h : mn = 2) (b : Bool) : flB mn b = !b := by subst h; cases b <;> rfl
theorem fl_0t {mn : Int} (h0 : 0 ≤ mn) (h1 : mn ≤ 2) (h2 : mn ≠ 2) (h3 : mn ≠ 1) {b : Bool} (hb : bI b = iZ 0) : flB mn b = !b := by
  rw [show mn = 0 by omega]; cases b
  · rfl
  · exact absurd hb (by decide)
theorem fl_0k {mn : Int} (h0 : 0 ≤ mn) (h1 : mn ≤ 2) (h2 : mn ≠ 2) (h3 : mn ≠ 1) {b : Bool} (hb : ¬ bI b = iZ 0) : flB mn b = b := by
  rw [show mn = 0 by omega]; cases b
  · exact absurd rfl hb
  · rfl
theorem fl_1t {mn : Int} (h3 : mn = 1) {b : Bool} (hb : bI b = iZ 1) : flB mn b = !b := by
  subst h3; cases b
  · exact absurd hb (by decide)
  · rfl
theorem fl_1k {mn : Int} (h3 : mn = 1) {b : Bool} (hb : ¬ bI b = iZ 1) : flB mn b = b := by
  subst h3; cases b
  · rfl
  · exact absurd rfl hb
/-- bars: the columns by whole numbers -/
theorem st_nn {dr : Int → Int} {m : Int} (hd : ∀ k, 0 ≤ m * dr k) : ∀ k : Nat, 0 ≤ stN dr m k
  | 0 => by show (0 : Int) ≤ 0; omega
  | k + 1 => by show 0 ≤ stN dr m k + m * dr k; have := st_nn hd k; have := hd k; omega
theorem st_mono {dr : Int → Int} {m : Int} (hd : ∀ k, 0 ≤ m * dr k) {a b : Nat} (h : a ≤ b) : stN dr m a ≤ stN dr m b := by
  induction b with
  | zero => rw [show a = 0 by omega]; exact Int.le_refl _
  | succ b ih =>
    by_cases e : a = b + 1
    · rw [e]; exact Int.le_refl _
    · have := ih (by omega); show _ ≤ stN dr m b + m * dr b; have := hd b; omega
theorem br_at {dr : Int → Int} {m : Int} (hd : ∀ k, 0 ≤ m * dr k) {k : Nat} {i : Int} (h1 : stN dr m k ≤ i) (h2 : i < stN dr m (k + 1)) : ∀ {n : Nat}, k < n → brN dr m n i = decide ((k : Int) % 2 = 0)
  | 0, h => absurd h (by omega)
  | n + 1, h => by
    show (brN dr m n i || decide (((n : Int) % 2 = 0) ∧ stN dr m n ≤ i ∧ i < stN dr m (n + 1))) = _
    by_cases e : k = n
    · subst e
      have : brN dr m k i = false := by
        cases q : brN dr m k i
        · rfl
        · have := br_lt hd q; exfalso; omega
      rw [this, Bool.false_or]; exact decide_eq_decide.mpr (by omega)
    · rw [br_at hd h1 h2 (show k < n by omega)]
      have := st_mono hd (show k + 1 ≤ n by omega)
      rw [decide_eq_false (show ¬ (((n : Int) % 2 = 0) ∧ stN dr m n ≤ i ∧ i < stN dr m (n + 1)) by omega), Bool.or_false]
theorem br_past {dr : Int → Int} {m : Int} (hd : ∀ k, 0 ≤ m * dr k) {n : Nat} {i : Int} (h : stN dr m n ≤ i) : brN dr m n i = false := by
  cases q : brN dr m n i
  · rfl
  · have := br_lt hd q; exfalso; omega
theorem br_neg {dr : Int → Int} {m : Int} (hd : ∀ k, 0 ≤ m * dr k) {i : Int} (h : i < 0) : ∀ n : Nat, brN dr m n i = false
  | 0 => rfl
  | n + 1 => by
    show (brN dr m n i || _) = false
    have := st_nn hd n
    rw [br_neg hd h n, decide_eq_false (by omega)]; rfl
/-- where the reference's bar stands at column i -/
def bkI (dr : Int → Int) (m n i k lf : Int) : Prop := -1 ≤ k ∧ k ≤ n ∧ 0 ≤ lf ∧ (0 ≤ k → stN dr m k.toNat ≤ i) ∧ (k < n → i + lf = stN dr m (k + 1).toNat) ∧ (k = n → lf = 0)
theorem bk_0 (dr : Int → Int) (m n : Int) (h : 0 ≤ n) : bkI dr m n 0 (-1) 0 := ⟨by omega, by omega, by omega, fun q => absurd q (by omega), fun _ => rfl, fun q => absurd q (by omega)⟩
theorem bk_next {dr : Int → Int} {m n i k : Int} (hd : ∀ k, 0 ≤ m * dr k) (h : bkI dr m n i k 0) (hk : k < n) : (k + 1 < n → bkI dr m n i (k + 1) (m * dr (k + 1))) ∧ (¬ k + 1 < n → bkI dr m n i (k + 1) 0) := by
  obtain ⟨a, b, c, d, e, f⟩ := h
  have e1 := e hk
  have ez : stN dr m (k + 1 + 1).toNat = stN dr m (k + 1).toNat + m * dr (k + 1) := by
    rw [show (k + 1 + 1).toNat = (k + 1).toNat + 1 by omega]
    show _ + m * dr ((k + 1).toNat : Int) = _
    rw [Int.toNat_of_nonneg (by omega)]
  have := hd (k + 1)
  refine ⟨fun q => ⟨by omega, by omega, by omega, fun _ => by omega, fun _ => by omega, fun q => absurd q (by omega)⟩, fun q => ⟨by omega, by omega, by omega, fun _ => by omega, fun q2 => absurd q2 q, fun _ => rfl⟩⟩
theorem bk_k0 {dr : Int → Int} {m n i k lf : Int} (h : bkI dr m n i k lf) (i0 : 0 ≤ i) (hk : k < n) (hl : lf ≠ 0) : 0 ≤ k := by
  obtain ⟨a, b, c, d, e, f⟩ := h
  by_cases k0 : 0 ≤ k
  · exact k0
  · have e1 := e hk
    rw [show (k + 1).toNat = 0 by omega] at e1
    have : stN dr m 0 = 0 := rfl
    omega
theorem bk_col {dr : Int → Int} {m n i k lf : Int} (hd : ∀ k, 0 ≤ m * dr k) (h : bkI dr m n i k lf) (hx : lf ≠ 0 ∨ n ≤ k) (n0 : 0 ≤ n) (i0 : 0 ≤ i) : brN dr m n.toNat i = decide (k < n ∧ k % 2 = 0) := by
  by_cases q : k < n
  · have k0 := bk_k0 h i0 q (by omega)
    obtain ⟨a, b, c, d, e, f⟩ := h
    have e1 := e q
    rw [br_at hd (k := k.toNat) (d k0) (by rw [show k.toNat + 1 = (k + 1).toNat by omega]; omega) (by omega)]
    exact decide_eq_decide.mpr (by omega)
  · obtain ⟨a, b, c, d, e, f⟩ := h
    rw [br_past hd (by have := d (by omega); rw [show n = k by omega]; exact this)]
    exact (decide_eq_false (by omega)).symm
theorem bk_step {dr : Int → Int} {m n i k lf l2 : Int} (h : bkI dr m n i k lf) (hx : lf ≠ 0 ∨ n ≤ k) (hl : (0 < lf ∧ l2 = lf - 1) ∨ (¬ 0 < lf ∧ l2 = 0)) : bkI dr m n (i + 1) k l2 := by
  obtain ⟨a, b, c, d, e, f⟩ := h
  refine ⟨a, b, by omega, fun q => by have := d q; omega, fun q => by have := e q; omega, fun q => by have := f q; omega⟩
theorem ba_ext {dr : Int → Int} {m : Int} (hd : ∀ k, 0 ≤ m * dr k) {q x y bh px py : Int} (n : Nat) : (brN dr m n (alg q x y px py) && decide (0 ≤ alg q x y px py ∧ 0 ≤ acr q x y px py ∧ acr q x y px py < bh)) = baB dr q x y bh m n px py := by
  unfold baB
  by_cases h : 0 ≤ alg q x y px py
  · congr 1; exact decide_eq_decide.mpr (by omega)
  · rw [br_neg hd (by omega), Bool.false_and, Bool.false_and]
theorem bel_out {P : Int → Int → Bool} {X : Int → Int32} {dr : Int → Int} {col : Int → Bool} {ff n fw fh fg fa fb qr fx fy px py : Int} (p3 : ff = 3 → P = txB X dr n fw fh fg fa fb qr fx fy) (p4 : ff = 4 → P = fun px py => col (alg qr fx fy px py) && decide (0 ≤ alg qr fx fy px py ∧ 0 ≤ acr qr fx fy px py ∧ acr qr fx fy px py < fb)) (p5 : ff = 5 → P = sqB dr qr fx fy fa fb)
    (hf : ff = 3 ∨ ff = 4 ∨ ff = 5) (ho : alg qr fx fy px py < 0 ∨ acr qr fx fy px py < 0) : iZ 0 = bI (P px py) := by
  have : P px py = false := by
    rcases hf with z | z | z
    · rw [p3 z]; unfold txB; rw [decide_eq_false (by omega), Bool.false_and]
    · rw [p4 z]; show (_ && decide _) = false; rw [decide_eq_false (by omega), Bool.and_false]
    · rw [p5 z]; unfold sqB; rw [decide_eq_false (by omega), Bool.false_and]
  rw [this]; rfl
theorem sq_ij {dr : Int → Int} {q x y n m i j px py : Int} (hi : i = alg q x y px py) (hj : j = acr q x y px py) (i0 : 0 ≤ i) (j0 : 0 ≤ j) : sqB dr q x y n m px py = (decide (i / m < n ∧ j / m < n) && pcD dr (n * (j / m) + i / m)) := by
  unfold sqB; rw [← hi, ← hj]; congr 1; exact decide_eq_decide.mpr (by omega)
theorem tx_ij {X : Int → Int32} {dr : Int → Int} {q x y n fw fh fg pa qa i j px py : Int} (hi : i = alg q x y px py) (hj : j = acr q x y px py) (i0 : 0 ≤ i) (j0 : 0 ≤ j) : txB X dr n fw fh fg pa qa q x y px py = (decide (i / pa / (fw + fg) < n ∧ i / pa % (fw + fg) < fw ∧ j / qa < fh) && cellB X (dr (i / pa / (fw + fg))) fw (j / qa) (i / pa % (fw + fg))) := by
  unfold txB; rw [← hi, ← hj]; congr 1; exact decide_eq_decide.mpr ⟨fun z => z.2.2, fun z => ⟨i0, j0, z⟩⟩
theorem ba_n1 {a : Bool} {p : Prop} {d : Decidable p} (h : a = false) : (a && @decide p d) = false := by rw [h]; rfl
theorem ba_n2 {a : Bool} {p : Prop} {d : Decidable p} (h : ¬ p) : (a && @decide p d) = false := by rw [decide_eq_false h, Bool.and_false]
theorem ba_y1 {a : Bool} {p : Prop} {d : Decidable p} (h : a = true) (hp : p) : (a && @decide p d) = true := by rw [decide_eq_true hp, h]; rfl
theorem d_Mo_belongs_0 : decode c_yMo_belongs 0 = .ok (.iload_n 1, 1) := by decide +kernel
theorem d_Mo_belongs_1 : decode c_yMo_belongs 1 = .ok (.ifCond .ne 10, 3) := by decide +kernel
theorem d_Mo_belongs_4 : decode c_yMo_belongs 4 = .ok (.aload_n 0, 1) := by decide +kernel
theorem d_Mo_belongs_5 : decode c_yMo_belongs 5 = .ok (.iload_n 2, 1) := by decide +kernel
theorem d_Mo_belongs_6 : decode c_yMo_belongs 6 = .ok (.iload_n 3, 1) := by decide +kernel
theorem d_Mo_belongs_7 : decode c_yMo_belongs 7 = .ok (.invokevirtual 85, 3) := by decide +kernel
theorem d_Mo_belongs_10 : decode c_yMo_belongs 10 = .ok (.ireturn, 1) := by decide +kernel
theorem d_Mo_belongs_11 : decode c_yMo_belongs 11 = .ok (.iload_n 1, 1) := by decide +kernel
theorem d_Mo_belongs_12 : decode c_yMo_belongs 12 = .ok (.iconst 1, 1) := by decide +kernel
theorem d_Mo_belongs_13 : decode c_yMo_belongs 13 = .ok (.if_icmp .ne 10, 3) := by decide +kernel
theorem d_Mo_belongs_16 : decode c_yMo_belongs 16 = .ok (.aload_n 0, 1) := by decide +kernel
theorem d_Mo_belongs_17 : decode c_yMo_belongs 17 = .ok (.iload_n 2, 1) := by decide +kernel
theorem d_Mo_belongs_18 : decode c_yMo_belongs 18 = .ok (.iload_n 3, 1) := by decide +kernel
theorem d_Mo_belongs_19 : decode c_yMo_belongs 19 = .ok (.invokevirtual 88, 3) := by decide +kernel
theorem d_Mo_belongs_22 : decode c_yMo_belongs 22 = .ok (.ireturn, 1) := by decide +kernel
theorem d_Mo_belongs_23 : decode c_yMo_belongs 23 = .ok (.iload_n 1, 1) := by decide +kernel
theorem d_Mo_belongs_24 : decode c_yMo_belongs 24 = .ok (.iconst 2, 1) := by decide +kernel
theorem d_Mo_belongs_25 : decode c_yMo_belongs 25 = .ok (.if_icmp .ne 10, 3) := by decide +kernel
theorem d_Mo_belongs_28 : decode c_yMo_belongs 28 = .ok (.aload_n 0, 1) := by decide +kernel
theorem d_Mo_belongs_29 : decode c_yMo_belongs 29 = .ok (.iload_n 2, 1) := by decide +kernel
theorem d_Mo_belongs_30 : decode c_yMo_belongs 30 = .ok (.iload_n 3, 1) := by decide +kernel
theorem d_Mo_belongs_31 : decode c_yMo_belongs 31 = .ok (.invokevirtual 91, 3) := by decide +kernel
theorem d_Mo_belongs_34 : decode c_yMo_belongs 34 = .ok (.ireturn, 1) := by decide +kernel
theorem d_Mo_belongs_35 : decode c_yMo_belongs 35 = .ok (.iload_n 1, 1) := by decide +kernel
theorem d_Mo_belongs_36 : decode c_yMo_belongs 36 = .ok (.bipush 6, 2) := by decide +kernel
theorem d_Mo_belongs_38 : decode c_yMo_belongs 38 = .ok (.if_icmp .ne 10, 3) := by decide +kernel
theorem d_Mo_belongs_41 : decode c_yMo_belongs 41 = .ok (.aload_n 0, 1) := by decide +kernel
theorem d_Mo_belongs_42 : decode c_yMo_belongs 42 = .ok (.iload_n 2, 1) := by decide +kernel
theorem d_Mo_belongs_43 : decode c_yMo_belongs 43 = .ok (.iload_n 3, 1) := by decide +kernel
theorem d_Mo_belongs_44 : decode c_yMo_belongs 44 = .ok (.invokevirtual 94, 3) := by decide +kernel
theorem d_Mo_belongs_47 : decode c_yMo_belongs 47 = .ok (.ireturn, 1) := by decide +kernel
theorem d_Mo_belongs_48 : decode c_yMo_belongs 48 = .ok (.aload_n 0, 1) := by decide +kernel
theorem d_Mo_belongs_49 : decode c_yMo_belongs 49 = .ok (.iload_n 2, 1) := by decide +kernel
theorem d_Mo_belongs_50 : decode c_yMo_belongs 50 = .ok (.iload_n 3, 1) := by decide +kernel
theorem d_Mo_belongs_51 : decode c_yMo_belongs 51 = .ok (.invokevirtual 97, 3) := by decide +kernel
theorem d_Mo_belongs_54 : decode c_yMo_belongs 54 = .ok (.istore 4, 2) := by decide +kernel
theorem d_Mo_belongs_56 : decode c_yMo_belongs 56 = .ok (.aload_n 0, 1) := by decide +kernel
theorem d_Mo_belongs_57 : decode c_yMo_belongs 57 = .ok (.iload_n 2, 1) := by decide +kernel
theorem d_Mo_belongs_58 : decode c_yMo_belongs 58 = .ok (.iload_n 3, 1) := by decide +kernel
theorem d_Mo_belongs_59 : decode c_yMo_belongs 59 = .ok (.invokevirtual 101, 3) := by decide +kernel
theorem d_Mo_belongs_62 : decode c_yMo_belongs 62 = .ok (.istore 5, 2) := by decide +kernel
theorem d_Mo_belongs_64 : decode c_yMo_belongs 64 = .ok (.iload 4, 2) := by decide +kernel
theorem d_Mo_belongs_66 : decode c_yMo_belongs 66 = .ok (.ifCond .lt 8, 3) := by decide +kernel
theorem d_Mo_belongs_69 : decode c_yMo_belongs 69 = .ok (.iload 5, 2) := by decide +kernel
theorem d_Mo_belongs_71 : decode c_yMo_belongs 71 = .ok (.ifCond .ge 5, 3) := by decide +kernel
theorem d_Mo_belongs_74 : decode c_yMo_belongs 74 = .ok (.iconst 0, 1) := by decide +kernel
theorem d_Mo_belongs_75 : decode c_yMo_belongs 75 = .ok (.ireturn, 1) := by decide +kernel
theorem d_Mo_belongs_76 : decode c_yMo_belongs 76 = .ok (.iload_n 1, 1) := by decide +kernel
theorem d_Mo_belongs_77 : decode c_yMo_belongs 77 = .ok (.iconst 3, 1) := by decide +kernel
theorem d_Mo_belongs_78 : decode c_yMo_belongs 78 = .ok (.if_icmp .ne 14, 3) := by decide +kernel
theorem d_Mo_belongs_81 : decode c_yMo_belongs 81 = .ok (.aload_n 0, 1) := by decide +kernel
theorem d_Mo_belongs_82 : decode c_yMo_belongs 82 = .ok (.iload 4, 2) := by decide +kernel
theorem d_Mo_belongs_84 : decode c_yMo_belongs 84 = .ok (.iload 5, 2) := by decide +kernel
theorem d_Mo_belongs_86 : decode c_yMo_belongs 86 = .ok (.invokevirtual 104, 3) := by decide +kernel
theorem d_Mo_belongs_89 : decode c_yMo_belongs 89 = .ok (.goto 43, 3) := by decide +kernel
theorem d_Mo_belongs_92 : decode c_yMo_belongs 92 = .ok (.iload_n 1, 1) := by decide +kernel
theorem d_Mo_belongs_93 : decode c_yMo_belongs 93 = .ok (.iconst 4, 1) := by decide +kernel
theorem d_Mo_belongs_94 : decode c_yMo_belongs 94 = .ok (.if_icmp .ne 30, 3) := by decide +kernel
theorem d_Mo_belongs_97 : decode c_yMo_belongs 97 = .ok (.aload_n 0, 1) := by decide +kernel
theorem d_Mo_belongs_98 : decode c_yMo_belongs 98 = .ok (.getfield 33, 3) := by decide +kernel
theorem d_Mo_belongs_101 : decode c_yMo_belongs 101 = .ok (.iload 4, 2) := by decide +kernel
theorem d_Mo_belongs_103 : decode c_yMo_belongs 103 = .ok (.baload, 1) := by decide +kernel
theorem d_Mo_belongs_104 : decode c_yMo_belongs 104 = .ok (.ifCond .eq 16, 3) := by decide +kernel
theorem d_Mo_belongs_107 : decode c_yMo_belongs 107 = .ok (.iload 5, 2) := by decide +kernel
theorem d_Mo_belongs_109 : decode c_yMo_belongs 109 = .ok (.aload_n 0, 1) := by decide +kernel
theorem d_Mo_belongs_110 : decode c_yMo_belongs 110 = .ok (.getfield 61, 3) := by decide +kernel
theorem d_Mo_belongs_113 : decode c_yMo_belongs 113 = .ok (.if_icmp .ge 7, 3) := by decide +kernel
theorem d_Mo_belongs_116 : decode c_yMo_belongs 116 = .ok (.iconst 1, 1) := by decide +kernel
theorem d_Mo_belongs_117 : decode c_yMo_belongs 117 = .ok (.goto 15, 3) := by decide +kernel
theorem d_Mo_belongs_120 : decode c_yMo_belongs 120 = .ok (.iconst 0, 1) := by decide +kernel
theorem d_Mo_belongs_121 : decode c_yMo_belongs 121 = .ok (.goto 11, 3) := by decide +kernel
theorem d_Mo_belongs_124 : decode c_yMo_belongs 124 = .ok (.aload_n 0, 1) := by decide +kernel
theorem d_Mo_belongs_125 : decode c_yMo_belongs 125 = .ok (.iload 4, 2) := by decide +kernel
theorem d_Mo_belongs_127 : decode c_yMo_belongs 127 = .ok (.iload 5, 2) := by decide +kernel
theorem d_Mo_belongs_129 : decode c_yMo_belongs 129 = .ok (.invokevirtual 107, 3) := by decide +kernel
theorem d_Mo_belongs_132 : decode c_yMo_belongs 132 = .ok (.ireturn, 1) := by decide +kernel
set_option maxHeartbeats 4000000 in
set_option maxRecDepth 100000 in
theorem c_Model_belongs (l : Launch) (dC : Nat → ClassId) (dI : Nat → Nat → Nat) (hm zd zb zt zs zc zo : Nat) (tw w h mn n fx fy fa fb fc qr fo : Int) (cI cZ : ClassId) (Dt Sz Ce Co X : Int → Int32) (dr : Int → Int) (col : Int → Bool) (fw fh fg : Int) (P : Int → Int → Bool) (ff px py : Int) (px1 : 0 ≤ px) (px2 : px ≤ 1023) (py1 : 0 ≤ py) (py2 : py ≤ 1023) (fx1 : -4096 ≤ fx) (fx2 : fx ≤ 4096) (fy1 : -4096 ≤ fy) (fy2 : fy ≤ 4096) (n1 : 0 ≤ n) (n2 : n ≤ 4096) (hT : RepT Dt n dr) (k1_ : 0 ≤ ff) (k2_ : ff ≤ 6) (g0 : ff = 0 ∨ ff = 2 → 1 ≤ fa ∧ fa ≤ 2048 ∧ 1 ≤ fb ∧ fb ≤ 2048 ∧ 1 ≤ fc ∧ fc ≤ 200) (p0 : ff = 0 → P = frB fx fy fa fb fc) (g1 : ff = 1 → -4096 ≤ fa ∧ fa ≤ 4096 ∧ -4096 ≤ fb ∧ fb ≤ 4096 ∧ 1 ≤ fc ∧ fc ≤ 200) (p1 : ff = 1 → P = lnD fx fy fa fb fc) (p2 : ff = 2 → P = elD fx fy fa fb fc) (g3 : ff = 3 → (0 ≤ qr ∧ qr ≤ 3) ∧ 1 ≤ fa ∧ fa ≤ 10 ∧ 1 ≤ fb ∧ fb ≤ 10 ∧ 0 ≤ fo ∧ fo ≤ 3 ∧ 1 ≤ fw ∧ fw ≤ 32 ∧ 1 ≤ fh ∧ fh ≤ 32 ∧ 0 ≤ fg ∧ fg ≤ 32 ∧ Sz (3 * fo) = iZ fw ∧ Sz (3 * fo + 1) = iZ fh ∧ Sz (3 * fo + 2) = iZ fg ∧ ∀ k : Int, 0 ≤ k → k < 8192 → Ce (8192 * fo + k) = X k) (p3 : ff = 3 → P = txB X dr n fw fh fg fa fb qr fx fy) (g4 : ff = 4 → (0 ≤ qr ∧ qr ≤ 3) ∧ 1 ≤ fb ∧ fb ≤ 2048 ∧ ∀ k : Int, 0 ≤ k → k < 5200 → Co k = bI (col k)) (p4 : ff = 4 → P = fun px py => col (alg qr fx fy px py) && decide (0 ≤ alg qr fx fy px py ∧ 0 ≤ acr qr fx fy px py ∧ acr qr fx fy px py < fb)) (g5 : ff = 5 → (0 ≤ qr ∧ qr ≤ 3) ∧ 1 ≤ fa ∧ fa ≤ 177 ∧ 1 ≤ fb ∧ fb ≤ 50 ∧ fa * fa ≤ 8 * n) (p5 : ff = 5 → P = sqB dr qr fx fy fa fb) (g6 : ff = 6 → 1 ≤ fa ∧ fa ≤ 2048) (p6 : ff = 6 → P = picB dr fx fy fa ((fa + 7) / 8) (n / ((fa + 7) / 8))) : Met l y_Mo_belongs w_Mo_belongs ({ frames := 2, cells := 0, slots := 0, locals := 57 }) (va_Pc [.ref hm, .int (iZ ff), .int (iZ px), .int (iZ py)] (zPr (dC, dI) vwCl [(hm, .inr (6, [.int (iZ tw), .int (iZ w), .int (iZ h), .int (iZ mn), .ref zd, .ref zb, .ref zt, .int (iZ n), .ref zs, .ref zc, .int (iZ fx), .int (iZ fy), .int (iZ fa), .int (iZ fb), .int (iZ fc), .int (iZ qr), .int (iZ fo), .ref zo])), (zt, .inl (cI, 4096, .inl (aI Dt))), (zs, .inl (cI, 12, .inl (aI Sz))), (zc, .inl (cI, 32768, .inl (aI Ce))), (zo, .inl (cZ, 5200, .inl (aI Co)))] [(cI, .int), (cZ, .boolean)])) (vp_Si (fun r => r = bI (P px py))) 0 0 (fun _ => False) := by
  refine Met.ofW (cc := c_yMo_belongs) (maxL := 6) (ret := (some .boolean)) (by decide) rfl ?_
  intro p e s m args below meth c s₁ B hml hv
  obtain ⟨rfl, hP, hK⟩ := hv
  have hx := B.exec
  have hb := B.bytes
  have hr := B.returns
  have hts0 := atoms_spec (ws := w_Mo_belongs) B.pre
  have hts : ∀ w ∈ gT, w.before _ s = true := fun w h => hts0 w (List.mem_cons_of_mem _ h)
  have hown : s.vm.findClass R_Mo = some m.cls := findClass_of_methodNamed B.named
  have hlocks := B.notSynchronized
  have hl := lv_entry ([.ref hm, .int (iZ ff), .int (iZ px), .int (iZ py)]) (n := 6) (Nat.le_of_ble_eq_true rfl)
  rw [lg_entry_eq]
  generalize (lg_sl ([.ref hm, .int (iZ ff), .int (iZ px), .int (iZ py)]) ++ List.replicate (6 - (lg_sl ([.ref hm, .int (iZ ff), .int (iZ px), .int (iZ py)])).length) Slot.unset).toArray = ls at hl ⊢
  have hl : lv_has ls 6 [(0, .ref hm), (1, .int (iZ ff)), (2, .int (iZ px)), (3, .int (iZ py))] := hl
  refine lv_iload_n hx hb d_Mo_belongs_0 rfl (lv_at hl 1 rfl) ?_
  refine zi_if_ne (tgt := 11) hx hb d_Mo_belongs_1 (by decide) (by omega) (by omega) (fun c_1 => ?_) (fun c_1 => ?_)
  · refine lv_iload_n hx hb d_Mo_belongs_11 rfl (lv_at hl 1 rfl) ?_
    refine lv_iconst (v := iZ (1)) hx hb d_Mo_belongs_12 rfl ?_
    refine zi_ne (tgt := 23) hx hb d_Mo_belongs_13 (by decide) (by omega) (by omega) (by omega) (by omega) (fun c_13 => ?_) (fun c_13 => ?_)
    · refine lv_iload_n hx hb d_Mo_belongs_23 rfl (lv_at hl 1 rfl) ?_
      refine lv_iconst (v := iZ (2)) hx hb d_Mo_belongs_24 rfl ?_
      refine zi_ne (tgt := 35) hx hb d_Mo_belongs_25 (by decide) (by omega) (by omega) (by omega) (by omega) (fun c_25 => ?_) (fun c_25 => ?_)
      · refine lv_iload_n hx hb d_Mo_belongs_35 rfl (lv_at hl 1 rfl) ?_
        refine lv_bipush (v := iZ (6)) hx hb d_Mo_belongs_36 (by decide) ?_
        refine zi_ne (tgt := 48) hx hb d_Mo_belongs_38 (by decide) (by omega) (by omega) (by omega) (by omega) (fun c_38 => ?_) (fun c_38 => ?_)
        · have qq : 0 ≤ qr ∧ qr ≤ 3 := by rcases (show ff = 3 ∨ ff = 4 ∨ ff = 5 by omega) with z | z | z; exact (g3 z).1; exact (g4 z).1; exact (g5 z).1
          have al9 := alg_in (q := qr) (px := px) (py := py) fx1 fx2 fy1 fy2 px1 px2 py1 py2
          refine lv_aload_n hx hb d_Mo_belongs_48 rfl (lv_at hl 0 rfl) ?_
          refine lv_iload_n hx hb d_Mo_belongs_49 rfl (lv_at hl 2 rfl) ?_
          refine lv_iload_n hx hb d_Mo_belongs_50 rfl (lv_at hl 3 rfl) ?_
          refine vp_callSi (va_runV (As := [.int (iZ px), .int (iZ py)]) (rest := []) ⟨hx, hb, hml, hown, hts⟩ (c_Model_along l dC dI hm zd zb zt zs zc zo tw w h mn n fx fy fa fb fc qr fo px py (by first | omega | assumption) (by first | omega | assumption) (by first | omega | assumption) (by first | omega | assumption) (by first | omega | assumption) (by first | omega | assumption) (by first | omega | assumption) (by first | omega | assumption) (qq.1) (qq.2)) (cwV 2 hts (gV t_811 t_813 s_23 t_6 t_814) rfl rfl rfl (by decide +kernel) ⟨Nat.le_of_ble_eq_true rfl, Nat.le_of_ble_eq_true rfl⟩) ⟨zPr_blind, va_recv hK hP (ci := 6) (q0 := 0) rfl rfl, zPr_pre hP hK [0] [] rfl rfl⟩ rfl rfl hl.1 rfl (lv_room (Nat.le_of_ble_eq_true rfl)) d_Mo_belongs_51 ⟨Nat.le_of_ble_eq_true rfl, Nat.le_of_ble_eq_true rfl⟩).run (fun r_51 q_51 => ?_)
          obtain rfl := q_51
          refine zn_z (fun i_ e_i_ => ?_)
          refine lv_istore (lv' := [(4, .int (iZ i_)), (0, .ref hm), (1, .int (iZ ff)), (2, .int (iZ px)), (3, .int (iZ py))]) hx hb d_Mo_belongs_54 hl (by decide) rfl (fun ls hl => ?_)
          refine lv_aload_n hx hb d_Mo_belongs_56 rfl (lv_at hl 1 rfl) ?_
          refine lv_iload_n hx hb d_Mo_belongs_57 rfl (lv_at hl 3 rfl) ?_
          refine lv_iload_n hx hb d_Mo_belongs_58 rfl (lv_at hl 4 rfl) ?_
          refine vp_callSi (va_runV (As := [.int (iZ px), .int (iZ py)]) (rest := []) ⟨hx, hb, hml, hown, hts⟩ (c_Model_across l dC dI hm zd zb zt zs zc zo tw w h mn n fx fy fa fb fc qr fo px py (by first | omega | assumption) (by first | omega | assumption) (by first | omega | assumption) (by first | omega | assumption) (by first | omega | assumption) (by first | omega | assumption) (by first | omega | assumption) (by first | omega | assumption) (qq.1) (qq.2)) (cwV 2 hts (gV t_815 t_817 s_24 t_6 t_818) rfl rfl rfl (by decide +kernel) ⟨Nat.le_of_ble_eq_true rfl, Nat.le_of_ble_eq_true rfl⟩) ⟨zPr_blind, va_recv hK hP (ci := 6) (q0 := 0) rfl rfl, zPr_pre hP hK [0] [] rfl rfl⟩ rfl rfl hl.1 rfl (lv_room (Nat.le_of_ble_eq_true rfl)) d_Mo_belongs_59 ⟨Nat.le_of_ble_eq_true rfl, Nat.le_of_ble_eq_true rfl⟩).run (fun r_59 q_59 => ?_)
          obtain rfl := q_59
          refine zn_z (fun j_ e_j_ => ?_)
          refine lv_istore (lv' := [(5, .int (iZ j_)), (4, .int (iZ i_)), (0, .ref hm), (1, .int (iZ ff)), (2, .int (iZ px)), (3, .int (iZ py))]) hx hb d_Mo_belongs_62 hl (by decide) rfl (fun ls hl => ?_)
          refine lv_iload hx hb d_Mo_belongs_64 (lv_at hl 1 rfl) ?_
          refine zi_if_lt (tgt := 74) hx hb d_Mo_belongs_66 (by decide) (by omega) (by omega) (fun c_66 => ?_) (fun c_66 => ?_)
          · refine lv_iconst (v := iZ (0)) hx hb d_Mo_belongs_74 rfl ?_
            exact W.zret (ty := .boolean) hx hb hr (by decide) (fun t ht hW => ⟨_, rfl, bel_out (P := P) (by first | exact p3 | exact fun z9 => p3 z9) p4 p5 (by omega) (by rw [← e_i_, ← e_j_]; omega), ht⟩) (fun q h => nomatch h) d_Mo_belongs_75
          · refine lv_iload hx hb d_Mo_belongs_69 (lv_at hl 0 rfl) ?_
            refine zi_if_ge (tgt := 76) hx hb d_Mo_belongs_71 (by decide) (by omega) (by omega) (fun c_71 => ?_) (fun c_71 => ?_)
            · refine lv_iload_n hx hb d_Mo_belongs_76 rfl (lv_at hl 3 rfl) ?_
              refine lv_iconst (v := iZ (3)) hx hb d_Mo_belongs_77 rfl ?_
              refine zi_ne (tgt := 92) hx hb d_Mo_belongs_78 (by decide) (by omega) (by omega) (by omega) (by omega) (fun c_78 => ?_) (fun c_78 => ?_)
              · refine lv_iload_n hx hb d_Mo_belongs_92 rfl (lv_at hl 3 rfl) ?_
                refine lv_iconst (v := iZ (4)) hx hb d_Mo_belongs_93 rfl ?_
                refine zi_ne (tgt := 124) hx hb d_Mo_belongs_94 (by decide) (by omega) (by omega) (by omega) (by omega) (fun c_94 => ?_) (fun c_94 => ?_)
                · have s8 := g5 (by omega)
                  have s9 : True ∧ 1 ≤ fa ∧ fa ≤ 177 ∧ 1 ≤ fb ∧ fb ≤ 50 ∧ fa * fa ≤ 8 * n := ⟨trivial, s8.2⟩
                  have s7 := s9.2.1
                  have s6 := s9.2.2.1
                  have s5 := s9.2.2.2.1
                  have s4 := s9.2.2.2.2.1
                  refine lv_aload_n hx hb d_Mo_belongs_124 rfl (lv_at hl 2 rfl) ?_
                  refine lv_iload hx hb d_Mo_belongs_125 (lv_at hl 1 rfl) ?_
                  refine lv_iload hx hb d_Mo_belongs_127 (lv_at hl 0 rfl) ?_
                  refine vp_callSi (va_runV (As := [.int (iZ i_), .int (iZ j_)]) (rest := []) ⟨hx, hb, hml, hown, hts⟩ (c_Model_inSquare l dC dI hm zd zb zt zs zc zo tw w h mn n fx fy fa fb fc qr fo cI Dt dr i_ j_ (by omega) (by omega) (by omega) (by omega) (by first | exact s9.2.2.2.2.2 | omega) (by first | exact s9.2.2.2.2.2 | omega) (by first | exact s9.2.2.2.2.2 | omega) (by first | exact s9.2.2.2.2.2 | omega) (by first | exact s9.2.2.2.2.2 | omega) (by first | omega | assumption) (by first | omega | assumption) (by first | omega | assumption)) (cwV 2 hts (gV t_823 t_825 s_26 t_6 t_826) rfl rfl rfl (by decide +kernel) ⟨Nat.le_of_ble_eq_true rfl, Nat.le_of_ble_eq_true rfl⟩) ⟨zPr_blind, va_recv hK hP (ci := 6) (q0 := 0) rfl rfl, zPr_pre hP hK [0, 1] [0] rfl rfl⟩ rfl rfl hl.1 rfl (lv_room (Nat.le_of_ble_eq_true rfl)) d_Mo_belongs_129 ⟨Nat.le_of_ble_eq_true rfl, Nat.le_of_ble_eq_true rfl⟩).run (fun r_129 q_129 => ?_)
                  obtain rfl := q_129
                  exact W.zret (ty := .boolean) hx hb hr (bI_nar _) (fun t ht hW => ⟨_, rfl, by rw [p5 (by omega)]; exact congrArg bI (sq_ij e_i_ e_j_ (by omega) (by omega)).symm, ht⟩) (fun q h => nomatch h) d_Mo_belongs_132
                · have u9 := (g4 c_94).2
                  refine lv_aload_n hx hb d_Mo_belongs_97 rfl (lv_at hl 2 rfl) ?_
                  refine va_get (D := (dC, dI)) (ci := 6) (v := .ref zo) (C := R_Mo) (T := T_Mo) (N := 18) hx hb hts wi_Mo hown hK hP 0 rfl rfl 17 (by decide) (hts _ t_701) (fun _ h9 => h9) rfl d_Mo_belongs_98 ?_
                  refine lv_iload hx hb d_Mo_belongs_101 (lv_at hl 1 rfl) ?_
                  refine z_zald hx hb hK hP 4 1 rfl rfl (by omega) (by omega) (by omega) d_Mo_belongs_103 ?_
                  refine lv_if_eq (tgt := 120) hx hb d_Mo_belongs_104 (by decide) (fun c_104 => ?_) (fun c_104 => ?_)
                  · refine lv_iconst (v := iZ (0)) hx hb d_Mo_belongs_120 rfl ?_
                    refine lv_goto (tgt := 132) hx hb d_Mo_belongs_121 (by decide) ?_
                    exact W.zret (ty := .boolean) hx hb hr (by decide) (fun t ht hW => ⟨_, rfl, by rw [p4 c_94, show bI (col (alg qr fx fy px py) && _) = bI false from congrArg bI (ba_n1 (by rw [← e_i_]; exact (bI_0 _).mp (by rw [← u9.2.2 i_ (by omega) (by omega)]; exact c_104)))]; rfl, ht⟩) (fun q h => nomatch h) d_Mo_belongs_132
                  · refine lv_iload hx hb d_Mo_belongs_107 (lv_at hl 0 rfl) ?_
                    refine lv_aload_n hx hb d_Mo_belongs_109 rfl (lv_at hl 2 rfl) ?_
                    refine va_get (D := (dC, dI)) (ci := 6) (v := .int (iZ fb)) (C := R_Mo) (T := T_Mo) (N := 18) hx hb hts wi_Mo hown hK hP 0 rfl rfl 13 (by decide) (hts _ t_697) (fun _ h9 => h9) rfl d_Mo_belongs_110 ?_
                    refine zi_ge (tgt := 120) hx hb d_Mo_belongs_113 (by decide) (by omega) (by omega) (by omega) (by omega) (fun c_113 => ?_) (fun c_113 => ?_)
                    · refine lv_iconst (v := iZ (0)) hx hb d_Mo_belongs_120 rfl ?_
                      refine lv_goto (tgt := 132) hx hb d_Mo_belongs_121 (by decide) ?_
                      exact W.zret (ty := .boolean) hx hb hr (by decide) (fun t ht hW => ⟨_, rfl, by rw [p4 c_94, show bI (col (alg qr fx fy px py) && _) = bI false from congrArg bI (ba_n2 (by rw [← e_j_]; omega))]; rfl, ht⟩) (fun q h => nomatch h) d_Mo_belongs_132
                    · refine lv_iconst (v := iZ (1)) hx hb d_Mo_belongs_116 rfl ?_
                      refine lv_goto (tgt := 132) hx hb d_Mo_belongs_117 (by decide) ?_
                      exact W.zret (ty := .boolean) hx hb hr (by decide) (fun t ht hW => ⟨_, rfl, by rw [p4 c_94, show bI (col (alg qr fx fy px py) && _) = bI true from congrArg bI (ba_y1 (by rw [← e_i_]; exact nfT (fun z9 => c_104 (by rw [u9.2.2 i_ (by omega) (by omega), z9]; rfl))) (by rw [← e_i_, ← e_j_]; omega))]; rfl, ht⟩) (fun q h => nomatch h) d_Mo_belongs_132
              · have t9 := (g3 c_78).2
                refine lv_aload_n hx hb d_Mo_belongs_81 rfl (lv_at hl 2 rfl) ?_
                refine lv_iload hx hb d_Mo_belongs_82 (lv_at hl 1 rfl) ?_
                refine lv_iload hx hb d_Mo_belongs_84 (lv_at hl 0 rfl) ?_
                refine vp_callSi (va_runV (As := [.int (iZ i_), .int (iZ j_)]) (rest := []) ⟨hx, hb, hml, hown, hts⟩ (c_Model_inText l dC dI hm zd zb zt zs zc zo tw w h mn n fx fy fa fb fc qr fo cI Dt Sz Ce X dr fw fh fg i_ j_ (by omega) (by omega) (by omega) (by omega) (t9.1) (t9.2.1) (t9.2.2.1) (t9.2.2.2.1) (t9.2.2.2.2.1) (t9.2.2.2.2.2.1) (t9.2.2.2.2.2.2.1) (t9.2.2.2.2.2.2.2.1) (t9.2.2.2.2.2.2.2.2.1) (t9.2.2.2.2.2.2.2.2.2.1) (t9.2.2.2.2.2.2.2.2.2.2.1) (t9.2.2.2.2.2.2.2.2.2.2.2.1) (t9.2.2.2.2.2.2.2.2.2.2.2.2.1) (t9.2.2.2.2.2.2.2.2.2.2.2.2.2.1) (t9.2.2.2.2.2.2.2.2.2.2.2.2.2.2.1) (t9.2.2.2.2.2.2.2.2.2.2.2.2.2.2.2) (by first | omega | assumption) (by first | omega | assumption) (by first | omega | assumption)) (cwV 2 hts (gV t_819 t_821 s_25 t_6 t_822) rfl rfl rfl (by decide +kernel) ⟨Nat.le_of_ble_eq_true rfl, Nat.le_of_ble_eq_true rfl⟩) ⟨zPr_blind, va_recv hK hP (ci := 6) (q0 := 0) rfl rfl, zPr_pre hP hK [0, 1, 2, 3] [0] rfl rfl⟩ rfl rfl hl.1 rfl (lv_room (Nat.le_of_ble_eq_true rfl)) d_Mo_belongs_86 ⟨Nat.le_of_ble_eq_true rfl, Nat.le_of_ble_eq_true rfl⟩).run (fun r_86 q_86 => ?_)
                obtain rfl := q_86
                refine lv_goto (tgt := 132) hx hb d_Mo_belongs_89 (by decide) ?_
                exact W.zret (ty := .boolean) hx hb hr (bI_nar _) (fun t ht hW => ⟨_, rfl, by rw [p3 c_78]; exact congrArg bI (tx_ij e_i_ e_j_ (by omega) (by omega)).symm, ht⟩) (fun q h => nomatch h) d_Mo_belongs_132
            · refine lv_iconst (v := iZ (0)) hx hb d_Mo_belongs_74 rfl ?_
              exact W.zret (ty := .boolean) hx hb hr (by decide) (fun t ht hW => ⟨_, rfl, bel_out (P := P) (by first | exact p3 | exact fun z9 => p3 z9) p4 p5 (by omega) (by rw [← e_i_, ← e_j_]; omega), ht⟩) (fun q h => nomatch h) d_Mo_belongs_75
        · refine lv_aload_n hx hb d_Mo_belongs_41 rfl (lv_at hl 0 rfl) ?_
          refine lv_iload_n hx hb d_Mo_belongs_42 rfl (lv_at hl 2 rfl) ?_
          refine lv_iload_n hx hb d_Mo_belongs_43 rfl (lv_at hl 3 rfl) ?_
          refine vp_callSi (va_runV (As := [.int (iZ px), .int (iZ py)]) (rest := []) ⟨hx, hb, hml, hown, hts⟩ (c_Model_inPicture l dC dI hm zd zb zt zs zc zo tw w h mn n fx fy fa fb fc qr fo cI Dt dr px py (by first | omega | assumption) (by first | omega | assumption) (by first | omega | assumption) (by first | omega | assumption) (by first | omega | assumption) (by first | omega | assumption) (by first | omega | assumption) (by first | omega | assumption) (by have z9 := g6 c_38; omega) (by have z9 := g6 c_38; omega) (by first | omega | assumption) (by first | omega | assumption) (by first | omega | assumption)) (cwV 2 hts (gV t_803 t_805 s_21 t_6 t_806) rfl rfl rfl (by decide +kernel) ⟨Nat.le_of_ble_eq_true rfl, Nat.le_of_ble_eq_true rfl⟩) ⟨zPr_blind, va_recv hK hP (ci := 6) (q0 := 0) rfl rfl, zPr_pre hP hK [0, 1] [0] rfl rfl⟩ rfl rfl hl.1 rfl (lv_room (Nat.le_of_ble_eq_true rfl)) d_Mo_belongs_44 ⟨Nat.le_of_ble_eq_true rfl, Nat.le_of_ble_eq_true rfl⟩).run (fun r_44 q_44 => ?_)
          obtain rfl := q_44
          exact W.zret (ty := .boolean) hx hb hr (bI_nar _) (fun t ht hW => ⟨_, rfl, by rw [p6 c_38], ht⟩) (fun q h => nomatch h) d_Mo_belongs_47
      · refine lv_aload_n hx hb d_Mo_belongs_28 rfl (lv_at hl 0 rfl) ?_
        refine lv_iload_n hx hb d_Mo_belongs_29 rfl (lv_at hl 2 rfl) ?_
        refine lv_iload_n hx hb d_Mo_belongs_30 rfl (lv_at hl 3 rfl) ?_
        refine vp_callSi (va_runV (As := [.int (iZ px), .int (iZ py)]) (rest := []) ⟨hx, hb, hml, hown, hts⟩ (c_Model_inEllipse l dC dI hm zd zb zt zs zc zo tw w h mn n fx fy fa fb fc qr fo px py (by first | omega | assumption) (by first | omega | assumption) (by first | omega | assumption) (by first | omega | assumption) (by first | omega | assumption) (by first | omega | assumption) (by first | omega | assumption) (by first | omega | assumption) (by have z9 := g0 (Or.inr c_25); omega) (by have z9 := g0 (Or.inr c_25); omega) (by have z9 := g0 (Or.inr c_25); omega) (by have z9 := g0 (Or.inr c_25); omega) (by have z9 := g0 (Or.inr c_25); omega) (by have z9 := g0 (Or.inr c_25); omega)) (cwV 2 hts (gV t_795 t_797 s_20 t_6 t_798) rfl rfl rfl (by decide +kernel) ⟨Nat.le_of_ble_eq_true rfl, Nat.le_of_ble_eq_true rfl⟩) ⟨zPr_blind, va_recv hK hP (ci := 6) (q0 := 0) rfl rfl, zPr_pre hP hK [0] [] rfl rfl⟩ rfl rfl hl.1 rfl (lv_room (Nat.le_of_ble_eq_true rfl)) d_Mo_belongs_31 ⟨Nat.le_of_ble_eq_true rfl, Nat.le_of_ble_eq_true rfl⟩).run (fun r_31 q_31 => ?_)
        obtain rfl := q_31
        exact W.zret (ty := .boolean) hx hb hr (bI_nar _) (fun t ht hW => ⟨_, rfl, by rw [p2 c_25], ht⟩) (fun q h => nomatch h) d_Mo_belongs_34
    · refine lv_aload_n hx hb d_Mo_belongs_16 rfl (lv_at hl 0 rfl) ?_
      refine lv_iload_n hx hb d_Mo_belongs_17 rfl (lv_at hl 2 rfl) ?_
      refine lv_iload_n hx hb d_Mo_belongs_18 rfl (lv_at hl 3 rfl) ?_
      refine vp_callSi (va_runV (As := [.int (iZ px), .int (iZ py)]) (rest := []) ⟨hx, hb, hml, hown, hts⟩ (c_Model_inLine l dC dI hm zd zb zt zs zc zo tw w h mn n fx fy fa fb fc qr fo px py (by first | omega | assumption) (by first | omega | assumption) (by first | omega | assumption) (by first | omega | assumption) (by first | omega | assumption) (by first | omega | assumption) (by first | omega | assumption) (by first | omega | assumption) (by have z9 := g1 c_13; omega) (by have z9 := g1 c_13; omega) (by have z9 := g1 c_13; omega) (by have z9 := g1 c_13; omega) (by have z9 := g1 c_13; omega) (by have z9 := g1 c_13; omega)) (cwV 2 hts (gV t_790 t_792 s_19 t_6 t_793) rfl rfl rfl (by decide +kernel) ⟨Nat.le_of_ble_eq_true rfl, Nat.le_of_ble_eq_true rfl⟩) ⟨zPr_blind, va_recv hK hP (ci := 6) (q0 := 0) rfl rfl, zPr_pre hP hK [0] [] rfl rfl⟩ rfl rfl hl.1 rfl (lv_room (Nat.le_of_ble_eq_true rfl)) d_Mo_belongs_19 ⟨Nat.le_of_ble_eq_true rfl, Nat.le_of_ble_eq_true rfl⟩).run (fun r_19 q_19 => ?_)
      obtain rfl := q_19
      exact W.zret (ty := .boolean) hx hb hr (bI_nar _) (fun t ht hW => ⟨_, rfl, by rw [p1 c_13], ht⟩) (fun q h => nomatch h) d_Mo_belongs_22
  · refine lv_aload_n hx hb d_Mo_belongs_4 rfl (lv_at hl 0 rfl) ?_
    refine lv_iload_n hx hb d_Mo_belongs_5 rfl (lv_at hl 2 rfl) ?_
    refine lv_iload_n hx hb d_Mo_belongs_6 rfl (lv_at hl 3 rfl) ?_
    refine vp_callSi (va_runV (As := [.int (iZ px), .int (iZ py)]) (rest := []) ⟨hx, hb, hml, hown, hts⟩ (c_Model_inFrame l dC dI hm zd zb zt zs zc zo tw w h mn n fx fy fa fb fc qr fo px py (by first | omega | assumption) (by first | omega | assumption) (by first | omega | assumption) (by first | omega | assumption) (by first | omega | assumption) (by first | omega | assumption) (by first | omega | assumption) (by first | omega | assumption) (by have z9 := g0 (Or.inl c_1); omega) (by have z9 := g0 (Or.inl c_1); omega) (by have z9 := g0 (Or.inl c_1); omega) (by have z9 := g0 (Or.inl c_1); omega) (by have z9 := g0 (Or.inl c_1); omega) (by have z9 := g0 (Or.inl c_1); omega)) (cwV 2 hts (gV t_786 t_788 s_18 t_6 t_789) rfl rfl rfl (by decide +kernel) ⟨Nat.le_of_ble_eq_true rfl, Nat.le_of_ble_eq_true rfl⟩) ⟨zPr_blind, va_recv hK hP (ci := 6) (q0 := 0) rfl rfl, zPr_pre hP hK [0] [] rfl rfl⟩ rfl rfl hl.1 rfl (lv_room (Nat.le_of_ble_eq_true rfl)) d_Mo_belongs_7 ⟨Nat.le_of_ble_eq_true rfl, Nat.le_of_ble_eq_true rfl⟩).run (fun r_7 q_7 => ?_)
    obtain rfl := q_7
    exact W.zret (ty := .boolean) hx hb hr (bI_nar _) (fun t ht hW => ⟨_, rfl, by rw [p0 c_1], ht⟩) (fun q h => nomatch h) d_Mo_belongs_10
theorem d_Mo_draw_0 : decode c_yMo_draw 0 = .ok (.iconst 0, 1) := by decide +kernel
theorem d_Mo_draw_1 : decode c_yMo_draw 1 = .ok (.istore_n 2, 1) := by decide +kernel
theorem d_Mo_draw_2 : decode c_yMo_draw 2 = .ok (.iconst 0, 1) := by decide +kernel
theorem d_Mo_draw_3 : decode c_yMo_draw 3 = .ok (.istore_n 3, 1) := by decide +kernel
theorem d_Mo_draw_4 : decode c_yMo_draw 4 = .ok (.iload_n 3, 1) := by decide +kernel
theorem d_Mo_draw_5 : decode c_yMo_draw 5 = .ok (.aload_n 0, 1) := by decide +kernel
theorem d_Mo_draw_6 : decode c_yMo_draw 6 = .ok (.getfield 13, 3) := by decide +kernel
theorem d_Mo_draw_9 : decode c_yMo_draw 9 = .ok (.if_icmp .ge 79, 3) := by decide +kernel
theorem d_Mo_draw_12 : decode c_yMo_draw 12 = .ok (.iconst 0, 1) := by decide +kernel
theorem d_Mo_draw_13 : decode c_yMo_draw 13 = .ok (.istore 4, 2) := by decide +kernel
theorem d_Mo_draw_15 : decode c_yMo_draw 15 = .ok (.iload 4, 2) := by decide +kernel
theorem d_Mo_draw_17 : decode c_yMo_draw 17 = .ok (.aload_n 0, 1) := by decide +kernel
theorem d_Mo_draw_18 : decode c_yMo_draw 18 = .ok (.getfield 7, 3) := by decide +kernel
theorem d_Mo_draw_21 : decode c_yMo_draw 21 = .ok (.if_icmp .ge 61, 3) := by decide +kernel
theorem d_Mo_draw_24 : decode c_yMo_draw 24 = .ok (.aload_n 0, 1) := by decide +kernel
theorem d_Mo_draw_25 : decode c_yMo_draw 25 = .ok (.iload_n 1, 1) := by decide +kernel
theorem d_Mo_draw_26 : decode c_yMo_draw 26 = .ok (.iload 4, 2) := by decide +kernel
theorem d_Mo_draw_28 : decode c_yMo_draw 28 = .ok (.iload_n 3, 1) := by decide +kernel
theorem d_Mo_draw_29 : decode c_yMo_draw 29 = .ok (.invokevirtual 110, 3) := by decide +kernel
theorem d_Mo_draw_32 : decode c_yMo_draw 32 = .ok (.ifCond .eq 44, 3) := by decide +kernel
theorem d_Mo_draw_35 : decode c_yMo_draw 35 = .ok (.iinc 2 1, 3) := by decide +kernel
theorem d_Mo_draw_38 : decode c_yMo_draw 38 = .ok (.aload_n 0, 1) := by decide +kernel
theorem d_Mo_draw_39 : decode c_yMo_draw 39 = .ok (.getfield 44, 3) := by decide +kernel
theorem d_Mo_draw_42 : decode c_yMo_draw 42 = .ok (.iconst 2, 1) := by decide +kernel
theorem d_Mo_draw_43 : decode c_yMo_draw 43 = .ok (.if_icmp .eq 26, 3) := by decide +kernel
theorem d_Mo_draw_46 : decode c_yMo_draw 46 = .ok (.aload_n 0, 1) := by decide +kernel
theorem d_Mo_draw_47 : decode c_yMo_draw 47 = .ok (.iload 4, 2) := by decide +kernel
theorem d_Mo_draw_49 : decode c_yMo_draw 49 = .ok (.iload_n 3, 1) := by decide +kernel
theorem d_Mo_draw_50 : decode c_yMo_draw 50 = .ok (.invokevirtual 114, 3) := by decide +kernel
theorem d_Mo_draw_53 : decode c_yMo_draw 53 = .ok (.aload_n 0, 1) := by decide +kernel
theorem d_Mo_draw_54 : decode c_yMo_draw 54 = .ok (.getfield 44, 3) := by decide +kernel
theorem d_Mo_draw_57 : decode c_yMo_draw 57 = .ok (.iconst 1, 1) := by decide +kernel
theorem d_Mo_draw_58 : decode c_yMo_draw 58 = .ok (.if_icmp .ne 7, 3) := by decide +kernel
theorem d_Mo_draw_61 : decode c_yMo_draw 61 = .ok (.iconst 1, 1) := by decide +kernel
theorem d_Mo_draw_62 : decode c_yMo_draw 62 = .ok (.goto 4, 3) := by decide +kernel
theorem d_Mo_draw_65 : decode c_yMo_draw 65 = .ok (.iconst 0, 1) := by decide +kernel
theorem d_Mo_draw_66 : decode c_yMo_draw 66 = .ok (.if_icmp .ne 10, 3) := by decide +kernel
theorem d_Mo_draw_69 : decode c_yMo_draw 69 = .ok (.aload_n 0, 1) := by decide +kernel
theorem d_Mo_draw_70 : decode c_yMo_draw 70 = .ok (.iload 4, 2) := by decide +kernel
theorem d_Mo_draw_72 : decode c_yMo_draw 72 = .ok (.iload_n 3, 1) := by decide +kernel
theorem d_Mo_draw_73 : decode c_yMo_draw 73 = .ok (.invokevirtual 117, 3) := by decide +kernel
theorem d_Mo_draw_76 : decode c_yMo_draw 76 = .ok (.iinc 4 1, 3) := by decide +kernel
theorem d_Mo_draw_79 : decode c_yMo_draw 79 = .ok (.goto (-64), 3) := by decide +kernel
theorem d_Mo_draw_82 : decode c_yMo_draw 82 = .ok (.iinc 3 1, 3) := by decide +kernel
theorem d_Mo_draw_85 : decode c_yMo_draw 85 = .ok (.goto (-81), 3) := by decide +kernel
theorem d_Mo_draw_88 : decode c_yMo_draw 88 = .ok (.iload_n 2, 1) := by decide +kernel
theorem d_Mo_draw_89 : decode c_yMo_draw 89 = .ok (.ireturn, 1) := by decide +kernel
set_option maxHeartbeats 4000000 in
set_option maxRecDepth 100000 in
theorem c_Model_draw (l : Launch) (dC : Nat → ClassId) (dI : Nat → Nat → Nat) (hm zd zb zt zs zc zo : Nat) (tw w h mn n fx fy fa fb fc qr fo : Int) (cI cZ : ClassId) (Dt Sz Ce Co X : Int → Int32) (dr : Int → Int) (col : Int → Bool) (fw fh fg : Int) (P : Int → Int → Bool) (Dk : Int → Int32) (pic : Int → Int → Bool) (ff : Int) (sz : Nat) (w1 : 1 ≤ w) (w2 : w ≤ 1024) (h1 : 1 ≤ h) (h2 : h ≤ 1024) (mn1 : 0 ≤ mn) (mn2 : mn ≤ 2) (hM : RepM Dk pic) (hO : Off w h pic) (fx1 : -4096 ≤ fx) (fx2 : fx ≤ 4096) (fy1 : -4096 ≤ fy) (fy2 : fy ≤ 4096) (n1 : 0 ≤ n) (n2 : n ≤ 4096) (hT : RepT Dt n dr) (k1_ : 0 ≤ ff) (k2_ : ff ≤ 6) (g0 : ff = 0 ∨ ff = 2 → 1 ≤ fa ∧ fa ≤ 2048 ∧ 1 ≤ fb ∧ fb ≤ 2048 ∧ 1 ≤ fc ∧ fc ≤ 200) (p0 : ff = 0 → P = frB fx fy fa fb fc) (g1 : ff = 1 → -4096 ≤ fa ∧ fa ≤ 4096 ∧ -4096 ≤ fb ∧ fb ≤ 4096 ∧ 1 ≤ fc ∧ fc ≤ 200) (p1 : ff = 1 → P = lnD fx fy fa fb fc) (p2 : ff = 2 → P = elD fx fy fa fb fc) (g3 : ff = 3 → (0 ≤ qr ∧ qr ≤ 3) ∧ 1 ≤ fa ∧ fa ≤ 10 ∧ 1 ≤ fb ∧ fb ≤ 10 ∧ 0 ≤ fo ∧ fo ≤ 3 ∧ 1 ≤ fw ∧ fw ≤ 32 ∧ 1 ≤ fh ∧ fh ≤ 32 ∧ 0 ≤ fg ∧ fg ≤ 32 ∧ Sz (3 * fo) = iZ fw ∧ Sz (3 * fo + 1) = iZ fh ∧ Sz (3 * fo + 2) = iZ fg ∧ ∀ k : Int, 0 ≤ k → k < 8192 → Ce (8192 * fo + k) = X k) (p3 : ff = 3 → P = txB X dr n fw fh fg fa fb qr fx fy) (g4 : ff = 4 → (0 ≤ qr ∧ qr ≤ 3) ∧ 1 ≤ fb ∧ fb ≤ 2048 ∧ ∀ k : Int, 0 ≤ k → k < 5200 → Co k = bI (col k)) (p4 : ff = 4 → P = fun px py => col (alg qr fx fy px py) && decide (0 ≤ alg qr fx fy px py ∧ 0 ≤ acr qr fx fy px py ∧ acr qr fx fy px py < fb)) (g5 : ff = 5 → (0 ≤ qr ∧ qr ≤ 3) ∧ 1 ≤ fa ∧ fa ≤ 177 ∧ 1 ≤ fb ∧ fb ≤ 50 ∧ fa * fa ≤ 8 * n) (p5 : ff = 5 → P = sqB dr qr fx fy fa fb) (g6 : ff = 6 → 1 ≤ fa ∧ fa ≤ 2048) (p6 : ff = 6 → P = picB dr fx fy fa ((fa + 7) / 8) (n / ((fa + 7) / 8))) : Met l y_Mo_draw w_Mo_draw ({ frames := 3, cells := 0, slots := 0, locals := 82 }) (va_Pc [.ref hm, .int (iZ ff)] (zPm (dC, dI) vwCl [(hm, .inr (6, [.int (iZ tw), .int (iZ w), .int (iZ h), .int (iZ mn), .ref zd, .ref zb, .ref zt, .int (iZ n), .ref zs, .ref zc, .int (iZ fx), .int (iZ fy), .int (iZ fa), .int (iZ fb), .int (iZ fc), .int (iZ qr), .int (iZ fo), .ref zo])), (zd, .inl (cI, 32768, .inl (aI Dk))), (zt, .inl (cI, 4096, .inl (aI Dt))), (zs, .inl (cI, 12, .inl (aI Sz))), (zc, .inl (cI, 32768, .inl (aI Ce))), (zo, .inl (cZ, 5200, .inl (aI Co)))] [(cI, .int), (cZ, .boolean)] sz)) (va_Qi (fun (r : Int32) (u : Int → Int32) => r = iZ (cnt w h P) ∧ RepM u (drw mn (fun px py => onB w h px py && P px py) pic)) (fun u => zB (dC, dI) vwCl [(cI, .int), (cZ, .boolean)] (va_A [(hm, .inr (6, [.int (iZ tw), .int (iZ w), .int (iZ h), .int (iZ mn), .ref zd, .ref zb, .ref zt, .int (iZ n), .ref zs, .ref zc, .int (iZ fx), .int (iZ fy), .int (iZ fa), .int (iZ fb), .int (iZ fc), .int (iZ qr), .int (iZ fo), .ref zo])), (zd, .inl (cI, 32768, .inl (aI Dk))), (zt, .inl (cI, 4096, .inl (aI Dt))), (zs, .inl (cI, 12, .inl (aI Sz))), (zc, .inl (cI, 32768, .inl (aI Ce))), (zo, .inl (cZ, 5200, .inl (aI Co)))] sz) [(hm, .inr (6, [.int (iZ tw), .int (iZ w), .int (iZ h), .int (iZ mn), .ref zd, .ref zb, .ref zt, .int (iZ n), .ref zs, .ref zc, .int (iZ fx), .int (iZ fy), .int (iZ fa), .int (iZ fb), .int (iZ fc), .int (iZ qr), .int (iZ fo), .ref zo])), (zd, .inl (cI, 32768, .inl (aI u))), (zt, .inl (cI, 4096, .inl (aI Dt))), (zs, .inl (cI, 12, .inl (aI Sz))), (zc, .inl (cI, 32768, .inl (aI Ce))), (zo, .inl (cZ, 5200, .inl (aI Co)))]) (va_A [(hm, .inr (6, [.int (iZ tw), .int (iZ w), .int (iZ h), .int (iZ mn), .ref zd, .ref zb, .ref zt, .int (iZ n), .ref zs, .ref zc, .int (iZ fx), .int (iZ fy), .int (iZ fa), .int (iZ fb), .int (iZ fc), .int (iZ qr), .int (iZ fo), .ref zo])), (zd, .inl (cI, 32768, .inl (aI Dk))), (zt, .inl (cI, 4096, .inl (aI Dt))), (zs, .inl (cI, 12, .inl (aI Sz))), (zc, .inl (cI, 32768, .inl (aI Ce))), (zo, .inl (cZ, 5200, .inl (aI Co)))] sz)) 0 0 (va_A [(hm, .inr (6, [.int (iZ tw), .int (iZ w), .int (iZ h), .int (iZ mn), .ref zd, .ref zb, .ref zt, .int (iZ n), .ref zs, .ref zc, .int (iZ fx), .int (iZ fy), .int (iZ fa), .int (iZ fb), .int (iZ fc), .int (iZ qr), .int (iZ fo), .ref zo])), (zd, .inl (cI, 32768, .inl (aI Dk))), (zt, .inl (cI, 4096, .inl (aI Dt))), (zs, .inl (cI, 12, .inl (aI Sz))), (zc, .inl (cI, 32768, .inl (aI Ce))), (zo, .inl (cZ, 5200, .inl (aI Co)))] sz) := by
  refine Met.ofW (cc := c_yMo_draw) (maxL := 5) (ret := (some .int)) (by decide) rfl ?_
  intro p e s m args below meth c s₁ B hml hv
  obtain ⟨rfl, hsz, hP, hK, hD0⟩ := hv
  have hx := B.exec
  have hb := B.bytes
  have hr := B.returns
  have hts0 := atoms_spec (ws := w_Mo_draw) B.pre
  have hts : ∀ w ∈ gT, w.before _ s = true := fun w h => hts0 w (List.mem_cons_of_mem _ h)
  have hown : s.vm.findClass R_Mo = some m.cls := findClass_of_methodNamed B.named
  have hlocks := B.notSynchronized
  subst hsz
  have hD := hD0.self (sz := s.heap.size)
  generalize hAe : va_A [(hm, .inr (6, [.int (iZ tw), .int (iZ w), .int (iZ h), .int (iZ mn), .ref zd, .ref zb, .ref zt, .int (iZ n), .ref zs, .ref zc, .int (iZ fx), .int (iZ fy), .int (iZ fa), .int (iZ fb), .int (iZ fc), .int (iZ qr), .int (iZ fo), .ref zo])), (zd, .inl (cI, 32768, .inl (aI Dk))), (zt, .inl (cI, 4096, .inl (aI Dt))), (zs, .inl (cI, 12, .inl (aI Sz))), (zc, .inl (cI, 32768, .inl (aI Ce))), (zo, .inl (cZ, 5200, .inl (aI Co)))] s.heap.size = A at hD ⊢
  have hA : ∀ q : Nat, s.heap.size ≤ q → A q := fun q h => by rw [← hAe]; exact Or.inr h
  obtain ⟨H, hH⟩ : ∃ H, s.heap = H := ⟨_, rfl⟩
  have hS : va_S A s.heap H [] := by rw [← hH]; exact va_S.rf
  rw [hH] at hP
  rw [hH]
  have hl := lv_entry ([.ref hm, .int (iZ ff)]) (n := 5) (Nat.le_of_ble_eq_true rfl)
  rw [lg_entry_eq]
  generalize (lg_sl ([.ref hm, .int (iZ ff)]) ++ List.replicate (5 - (lg_sl ([.ref hm, .int (iZ ff)])).length) Slot.unset).toArray = ls at hl ⊢
  have hl : lv_has ls 5 [(0, .ref hm), (1, .int (iZ ff))] := hl
  refine lv_iconst (v := iZ (0)) hx hb d_Mo_draw_0 rfl ?_
  refine lv_istore_n (lv' := [(2, .int (iZ 0)), (0, .ref hm), (1, .int (iZ ff))]) hx hb d_Mo_draw_1 rfl hl (by decide) rfl (fun ls hl => ?_)
  refine lv_iconst (v := iZ (0)) hx hb d_Mo_draw_2 rfl ?_
  refine lv_istore_n (lv' := [(3, .int (iZ 0)), (2, .int (iZ 0)), (0, .ref hm), (1, .int (iZ ff))]) hx hb d_Mo_draw_3 rfl hl (by decide) rfl (fun ls hl => ?_)
  have LP_4 : ∀ (n_4 : Nat) (yy : Int) (nn : Int) (K : Int → Int32), (0 ≤ yy) → (yy ≤ h) → (dwI w h mn P pic K 0 yy nn) → (h - yy).toNat < n_4 → ∀ (H : Heap) (locs : List Loc), va_P (dC, dI) vwCl [(hm, .inr (6, [.int (iZ tw), .int (iZ w), .int (iZ h), .int (iZ mn), .ref zd, .ref zb, .ref zt, .int (iZ n), .ref zs, .ref zc, .int (iZ fx), .int (iZ fy), .int (iZ fa), .int (iZ fb), .int (iZ fc), .int (iZ qr), .int (iZ fo), .ref zo])), (zd, .inl (cI, 32768, .inl (aI K))), (zt, .inl (cI, 4096, .inl (aI Dt))), (zs, .inl (cI, 12, .inl (aI Sz))), (zc, .inl (cI, 32768, .inl (aI Ce))), (zo, .inl (cZ, 5200, .inl (aI Co)))] H → va_D A [(hm, .inr (6, [.int (iZ tw), .int (iZ w), .int (iZ h), .int (iZ mn), .ref zd, .ref zb, .ref zt, .int (iZ n), .ref zs, .ref zc, .int (iZ fx), .int (iZ fy), .int (iZ fa), .int (iZ fb), .int (iZ fc), .int (iZ qr), .int (iZ fo), .ref zo])), (zd, .inl (cI, 32768, .inl (aI K))), (zt, .inl (cI, 4096, .inl (aI Dt))), (zs, .inl (cI, 12, .inl (aI Sz))), (zc, .inl (cI, 32768, .inl (aI Ce))), (zo, .inl (cZ, 5200, .inl (aI Co)))] → va_S A s.heap H locs → ∀ (ls : Array Slot), lv_has ls 5 [(0, .ref hm), (1, .int (iZ ff)), (2, .int (iZ nn)), (3, .int (iZ yy))] → W p l e ({ frames := 3, cells := 0, slots := 0, locals := 82 } : Room) s m ([.ref hm, .int (iZ ff)] : List Value).toArray below meth c H locs 0 0 (MQ below (va_Qi (fun (r : Int32) (u : Int → Int32) => r = iZ (cnt w h P) ∧ RepM u (drw mn (fun px py => onB w h px py && P px py) pic)) (fun u => zB (dC, dI) vwCl [(cI, .int), (cZ, .boolean)] A [(hm, .inr (6, [.int (iZ tw), .int (iZ w), .int (iZ h), .int (iZ mn), .ref zd, .ref zb, .ref zt, .int (iZ n), .ref zs, .ref zc, .int (iZ fx), .int (iZ fy), .int (iZ fa), .int (iZ fb), .int (iZ fc), .int (iZ qr), .int (iZ fo), .ref zo])), (zd, .inl (cI, 32768, .inl (aI u))), (zt, .inl (cI, 4096, .inl (aI Dt))), (zs, .inl (cI, 12, .inl (aI Sz))), (zc, .inl (cI, 32768, .inl (aI Ce))), (zo, .inl (cZ, 5200, .inl (aI Co)))]) A) ([.ref hm, .int (iZ ff)] : List Value).toArray s 0 0 A) (F0 m 4 ls []) := by
    intro n_4
    induction n_4 with
    | zero => intro yy nn K i1 i2 i3 hm; exact absurd hm (by omega)
    | succ n_4 ih_4 =>
      intro yy nn K i1 i2 i3 hm_4 H locs hP hD hS ls hl
      refine lv_iload_n hx hb d_Mo_draw_4 rfl (lv_at hl 3 rfl) ?_
      refine lv_aload_n hx hb d_Mo_draw_5 rfl (lv_at hl 0 rfl) ?_
      refine va_get (D := (dC, dI)) (ci := 6) (v := .int (iZ h)) (C := R_Mo) (T := T_Mo) (N := 18) hx hb hts wi_Mo hown hK hP 0 rfl rfl 2 (by decide) (hts _ t_686) (fun _ h9 => h9) rfl d_Mo_draw_6 ?_
      refine zi_ge (tgt := 88) hx hb d_Mo_draw_9 (by decide) (by omega) (by omega) (by omega) (by omega) (fun c_9 => ?_) (fun c_9 => ?_)
      · refine lv_iload_n hx hb d_Mo_draw_88 rfl (lv_at hl 2 rfl) ?_
        exact W.iret hx hb hr (fun t ht hW => ⟨⟨_, K, rfl, ⟨congrArg iZ (dw_end i3 (by omega)).1, (dw_end i3 (by omega)).2⟩, by rw [ht]; exact hP, va_K.moved hW.alike hK, hD⟩, hS.F ht⟩) hS.2.2 d_Mo_draw_89
      · refine lv_iconst (v := iZ (0)) hx hb d_Mo_draw_12 rfl ?_
        refine lv_istore (lv' := [(4, .int (iZ 0)), (0, .ref hm), (1, .int (iZ ff)), (2, .int (iZ nn)), (3, .int (iZ yy))]) hx hb d_Mo_draw_13 hl (by decide) rfl (fun ls hl => ?_)
        have LP_15 : ∀ (n_15 : Nat) (xx : Int) (n2_ : Int) (K2 : Int → Int32), (0 ≤ xx) → (xx ≤ w) → (dwI w h mn P pic K2 xx yy n2_) → (w - xx).toNat < n_15 → ∀ (H : Heap) (locs : List Loc), va_P (dC, dI) vwCl [(hm, .inr (6, [.int (iZ tw), .int (iZ w), .int (iZ h), .int (iZ mn), .ref zd, .ref zb, .ref zt, .int (iZ n), .ref zs, .ref zc, .int (iZ fx), .int (iZ fy), .int (iZ fa), .int (iZ fb), .int (iZ fc), .int (iZ qr), .int (iZ fo), .ref zo])), (zd, .inl (cI, 32768, .inl (aI K2))), (zt, .inl (cI, 4096, .inl (aI Dt))), (zs, .inl (cI, 12, .inl (aI Sz))), (zc, .inl (cI, 32768, .inl (aI Ce))), (zo, .inl (cZ, 5200, .inl (aI Co)))] H → va_D A [(hm, .inr (6, [.int (iZ tw), .int (iZ w), .int (iZ h), .int (iZ mn), .ref zd, .ref zb, .ref zt, .int (iZ n), .ref zs, .ref zc, .int (iZ fx), .int (iZ fy), .int (iZ fa), .int (iZ fb), .int (iZ fc), .int (iZ qr), .int (iZ fo), .ref zo])), (zd, .inl (cI, 32768, .inl (aI K2))), (zt, .inl (cI, 4096, .inl (aI Dt))), (zs, .inl (cI, 12, .inl (aI Sz))), (zc, .inl (cI, 32768, .inl (aI Ce))), (zo, .inl (cZ, 5200, .inl (aI Co)))] → va_S A s.heap H locs → ∀ (ls : Array Slot), lv_has ls 5 [(0, .ref hm), (1, .int (iZ ff)), (2, .int (iZ n2_)), (3, .int (iZ yy)), (4, .int (iZ xx))] → W p l e ({ frames := 3, cells := 0, slots := 0, locals := 82 } : Room) s m ([.ref hm, .int (iZ ff)] : List Value).toArray below meth c H locs 0 0 (MQ below (va_Qi (fun (r : Int32) (u : Int → Int32) => r = iZ (cnt w h P) ∧ RepM u (drw mn (fun px py => onB w h px py && P px py) pic)) (fun u => zB (dC, dI) vwCl [(cI, .int), (cZ, .boolean)] A [(hm, .inr (6, [.int (iZ tw), .int (iZ w), .int (iZ h), .int (iZ mn), .ref zd, .ref zb, .ref zt, .int (iZ n), .ref zs, .ref zc, .int (iZ fx), .int (iZ fy), .int (iZ fa), .int (iZ fb), .int (iZ fc), .int (iZ qr), .int (iZ fo), .ref zo])), (zd, .inl (cI, 32768, .inl (aI u))), (zt, .inl (cI, 4096, .inl (aI Dt))), (zs, .inl (cI, 12, .inl (aI Sz))), (zc, .inl (cI, 32768, .inl (aI Ce))), (zo, .inl (cZ, 5200, .inl (aI Co)))]) A) ([.ref hm, .int (iZ ff)] : List Value).toArray s 0 0 A) (F0 m 15 ls []) := by
          intro n_15
          induction n_15 with
          | zero => intro xx n2_ K2 j1 j2 j3 hm; exact absurd hm (by omega)
          | succ n_15 ih_15 =>
            intro xx n2_ K2 j1 j2 j3 hm_15 H locs hP hD hS ls hl
            refine lv_iload hx hb d_Mo_draw_15 (lv_at hl 4 rfl) ?_
            refine lv_aload_n hx hb d_Mo_draw_17 rfl (lv_at hl 0 rfl) ?_
            refine va_get (D := (dC, dI)) (ci := 6) (v := .int (iZ w)) (C := R_Mo) (T := T_Mo) (N := 18) hx hb hts wi_Mo hown hK hP 0 rfl rfl 1 (by decide) (hts _ t_685) (fun _ h9 => h9) rfl d_Mo_draw_18 ?_
            refine zi_ge (tgt := 82) hx hb d_Mo_draw_21 (by decide) (by omega) (by omega) (by omega) (by omega) (fun c_21 => ?_) (fun c_21 => ?_)
            · refine lv_iinc (v := iZ (yy + 1)) (lv' := [(3, .int (iZ (yy + 1))), (0, .ref hm), (1, .int (iZ ff)), (2, .int (iZ n2_)), (4, .int (iZ xx))]) hx hb d_Mo_draw_82 hl (k := 3) rfl (iZ_add _ _) (by decide) rfl (fun ls hl => ?_)
              refine lv_goto (tgt := 4) hx hb d_Mo_draw_85 (by decide) ?_
              exact ih_4 (yy + 1) n2_ K2 (by omega) (by omega) (dw_row j3 (by omega)) (by omega) _ _ hP hD hS ls (lv_sub hl [1, 2, 3, 0] rfl)
            · refine lv_aload_n hx hb d_Mo_draw_24 rfl (lv_at hl 0 rfl) ?_
              refine lv_iload_n hx hb d_Mo_draw_25 rfl (lv_at hl 1 rfl) ?_
              refine lv_iload hx hb d_Mo_draw_26 (lv_at hl 4 rfl) ?_
              refine lv_iload_n hx hb d_Mo_draw_28 rfl (lv_at hl 3 rfl) ?_
              refine vp_callSi (va_runV (As := [.int (iZ ff), .int (iZ xx), .int (iZ yy)]) (rest := []) ⟨hx, hb, hml, hown, hts⟩ (c_Model_belongs l dC dI hm zd zb zt zs zc zo tw w h mn n fx fy fa fb fc qr fo cI cZ Dt Sz Ce Co X dr col fw fh fg P ff xx yy (by omega) (by omega) (by omega) (by omega) (fx1) (fx2) (fy1) (fy2) (n1) (n2) (hT) (k1_) (k2_) (g0) (p0) (g1) (p1) (p2) (g3) (p3) (g4) (p4) (g5) (p5) (g6) (p6)) (cwV 3 hts (gV t_782 t_784 s_17 t_6 t_785) rfl rfl rfl (by decide +kernel) ⟨Nat.le_of_ble_eq_true rfl, Nat.le_of_ble_eq_true rfl⟩) ⟨zPr_blind, va_recv hK hP (ci := 6) (q0 := 0) rfl rfl, zPr_pre hP hK [0, 2, 3, 4, 5] [0, 1] rfl rfl⟩ rfl rfl hl.1 rfl (lv_room (Nat.le_of_ble_eq_true rfl)) d_Mo_draw_29 ⟨Nat.le_of_ble_eq_true rfl, Nat.le_of_ble_eq_true rfl⟩).run (fun r_29 q_29 => ?_)
              obtain rfl := q_29
              refine zb_if_eq (tgt := 76) hx hb d_Mo_draw_32 (by decide) (fun c_32 => ?_) (fun c_32 => ?_)
              · refine lv_iinc (v := iZ (xx + 1)) (lv' := [(4, .int (iZ (xx + 1))), (0, .ref hm), (1, .int (iZ ff)), (2, .int (iZ n2_)), (3, .int (iZ yy))]) hx hb d_Mo_draw_76 hl (k := 4) rfl (iZ_add _ _) (by decide) rfl (fun ls hl => ?_)
                refine lv_goto (tgt := 15) hx hb d_Mo_draw_79 (by decide) ?_
                exact ih_15 (xx + 1) n2_ K2 (by omega) (by omega) (by first | exact dw_no j3 c_32 | exact dw_tog j3 (show 0 ≤ xx by omega) (show xx < w by omega) (show 0 ≤ yy by omega) (show yy < h by omega) c_32 q_73 (fl_2 c_43 _) | exact dw_tog j3 (show 0 ≤ xx by omega) (show xx < w by omega) (show 0 ≤ yy by omega) (show yy < h by omega) c_32 q_73 (fl_0t mn1 mn2 c_43 c_58 c_66) | exact dw_tog j3 (show 0 ≤ xx by omega) (show xx < w by omega) (show 0 ≤ yy by omega) (show yy < h by omega) c_32 q_73 (fl_1t c_58 c_66) | exact dw_keep j3 (show 0 ≤ xx by omega) (show xx < w by omega) (show 0 ≤ yy by omega) (show yy < h by omega) c_32 (fl_0k mn1 mn2 c_43 c_58 c_66) | exact dw_keep j3 (show 0 ≤ xx by omega) (show xx < w by omega) (show 0 ≤ yy by omega) (show yy < h by omega) c_32 (fl_1k c_58 c_66)) (by omega) _ _ hP hD hS ls (lv_sub hl [1, 2, 3, 4, 0] rfl)
              · refine lv_iinc (v := iZ (n2_ + 1)) (lv' := [(2, .int (iZ (n2_ + 1))), (0, .ref hm), (1, .int (iZ ff)), (3, .int (iZ yy)), (4, .int (iZ xx))]) hx hb d_Mo_draw_35 hl (k := 2) rfl (iZ_add _ _) (by decide) rfl (fun ls hl => ?_)
                refine lv_aload_n hx hb d_Mo_draw_38 rfl (lv_at hl 1 rfl) ?_
                refine va_get (D := (dC, dI)) (ci := 6) (v := .int (iZ mn)) (C := R_Mo) (T := T_Mo) (N := 18) hx hb hts wi_Mo hown hK hP 0 rfl rfl 3 (by decide) (hts _ t_687) (fun _ h9 => h9) rfl d_Mo_draw_39 ?_
                refine lv_iconst (v := iZ (2)) hx hb d_Mo_draw_42 rfl ?_
                refine zi_eq (tgt := 69) hx hb d_Mo_draw_43 (by decide) (by omega) (by omega) (by omega) (by omega) (fun c_43 => ?_) (fun c_43 => ?_)
                · refine lv_aload_n hx hb d_Mo_draw_69 rfl (lv_at hl 1 rfl) ?_
                  refine lv_iload hx hb d_Mo_draw_70 (lv_at hl 4 rfl) ?_
                  refine lv_iload_n hx hb d_Mo_draw_72 rfl (lv_at hl 3 rfl) ?_
                  refine zc_v (w1 := fun (u_73 : Int → Int32) => [(hm, .inr (6, [.int (iZ tw), .int (iZ w), .int (iZ h), .int (iZ mn), .ref zd, .ref zb, .ref zt, .int (iZ n), .ref zs, .ref zc, .int (iZ fx), .int (iZ fy), .int (iZ fa), .int (iZ fb), .int (iZ fc), .int (iZ qr), .int (iZ fo), .ref zo])), (zd, .inl (cI, 32768, .inl (aI u_73)))]) (wr := [(zt, .inl (cI, 4096, .inl (aI Dt))), (zs, .inl (cI, 12, .inl (aI Sz))), (zc, .inl (cI, 32768, .inl (aI Ce))), (zo, .inl (cZ, 5200, .inl (aI Co)))]) (va_runV (As := [.int (iZ xx), .int (iZ yy)]) (rest := []) ⟨hx, hb, hml, hown, hts⟩ (c_Model_other l dC dI hm zd zb zt zs zc zo tw w h mn n fx fy fa fb fc qr fo cI K2 (dwC w h mn P pic xx yy) xx yy H.size (j3.1) (by first | omega | assumption) (by first | omega | assumption) (by first | omega | assumption) (by first | omega | assumption)) (cwV 2 hts (gV t_835 t_837 s_29 t_6 t_838) rfl rfl rfl (by decide +kernel) ⟨Nat.le_of_ble_eq_true rfl, Nat.le_of_ble_eq_true rfl⟩) ⟨zPm_blind, va_recv hK hP (ci := 6) (q0 := 0) rfl rfl, zPm_pre hP hD hK [0, 1] [0] rfl rfl rfl rfl⟩ rfl rfl hl.1 rfl (lv_room (Nat.le_of_ble_eq_true rfl)) d_Mo_draw_73 ⟨Nat.le_of_ble_eq_true rfl, Nat.le_of_ble_eq_true rfl⟩) hP hD hS hA [0, 1] [2, 3, 4, 5] rfl rfl rfl (by decide) (fun u_73 H locs q_73 hP hD hS => ?_)
                  have hP : va_P (dC, dI) vwCl [(zt, .inl (cI, 4096, .inl (aI Dt))), (zs, .inl (cI, 12, .inl (aI Sz))), (zc, .inl (cI, 32768, .inl (aI Ce))), (zo, .inl (cZ, 5200, .inl (aI Co))), (hm, .inr (6, [.int (iZ tw), .int (iZ w), .int (iZ h), .int (iZ mn), .ref zd, .ref zb, .ref zt, .int (iZ n), .ref zs, .ref zc, .int (iZ fx), .int (iZ fy), .int (iZ fa), .int (iZ fb), .int (iZ fc), .int (iZ qr), .int (iZ fo), .ref zo])), (zd, .inl (cI, 32768, .inl (aI u_73)))] H := hP
                  have hD : va_D A [(zt, .inl (cI, 4096, .inl (aI Dt))), (zs, .inl (cI, 12, .inl (aI Sz))), (zc, .inl (cI, 32768, .inl (aI Ce))), (zo, .inl (cZ, 5200, .inl (aI Co))), (hm, .inr (6, [.int (iZ tw), .int (iZ w), .int (iZ h), .int (iZ mn), .ref zd, .ref zb, .ref zt, .int (iZ n), .ref zs, .ref zc, .int (iZ fx), .int (iZ fy), .int (iZ fa), .int (iZ fb), .int (iZ fc), .int (iZ qr), .int (iZ fo), .ref zo])), (zd, .inl (cI, 32768, .inl (aI u_73)))] := hD
                  refine lv_iinc (v := iZ (xx + 1)) (lv' := [(4, .int (iZ (xx + 1))), (2, .int (iZ (n2_ + 1))), (0, .ref hm), (1, .int (iZ ff)), (3, .int (iZ yy))]) hx hb d_Mo_draw_76 hl (k := 4) rfl (iZ_add _ _) (by decide) rfl (fun ls hl => ?_)
                  refine lv_goto (tgt := 15) hx hb d_Mo_draw_79 (by decide) ?_
                  exact ih_15 (xx + 1) (n2_ + 1) u_73 (by omega) (by omega) (by first | exact dw_no j3 c_32 | exact dw_tog j3 (show 0 ≤ xx by omega) (show xx < w by omega) (show 0 ≤ yy by omega) (show yy < h by omega) c_32 q_73 (fl_2 c_43 _) | exact dw_tog j3 (show 0 ≤ xx by omega) (show xx < w by omega) (show 0 ≤ yy by omega) (show yy < h by omega) c_32 q_73 (fl_0t mn1 mn2 c_43 c_58 c_66) | exact dw_tog j3 (show 0 ≤ xx by omega) (show xx < w by omega) (show 0 ≤ yy by omega) (show yy < h by omega) c_32 q_73 (fl_1t c_58 c_66) | exact dw_keep j3 (show 0 ≤ xx by omega) (show xx < w by omega) (show 0 ≤ yy by omega) (show yy < h by omega) c_32 (fl_0k mn1 mn2 c_43 c_58 c_66) | exact dw_keep j3 (show 0 ≤ xx by omega) (show xx < w by omega) (show 0 ≤ yy by omega) (show yy < h by omega) c_32 (fl_1k c_58 c_66)) (by omega) _ _ (hP.sub (ws' := [(hm, .inr (6, [.int (iZ tw), .int (iZ w), .int (iZ h), .int (iZ mn), .ref zd, .ref zb, .ref zt, .int (iZ n), .ref zs, .ref zc, .int (iZ fx), .int (iZ fy), .int (iZ fa), .int (iZ fb), .int (iZ fc), .int (iZ qr), .int (iZ fo), .ref zo])), (zd, .inl (cI, 32768, .inl (aI u_73))), (zt, .inl (cI, 4096, .inl (aI Dt))), (zs, .inl (cI, 12, .inl (aI Sz))), (zc, .inl (cI, 32768, .inl (aI Ce))), (zo, .inl (cZ, 5200, .inl (aI Co)))]) [4, 5, 0, 1, 2, 3] rfl) (hD.sub (ws' := [(hm, .inr (6, [.int (iZ tw), .int (iZ w), .int (iZ h), .int (iZ mn), .ref zd, .ref zb, .ref zt, .int (iZ n), .ref zs, .ref zc, .int (iZ fx), .int (iZ fy), .int (iZ fa), .int (iZ fb), .int (iZ fc), .int (iZ qr), .int (iZ fo), .ref zo])), (zd, .inl (cI, 32768, .inl (aI u_73))), (zt, .inl (cI, 4096, .inl (aI Dt))), (zs, .inl (cI, 12, .inl (aI Sz))), (zc, .inl (cI, 32768, .inl (aI Ce))), (zo, .inl (cZ, 5200, .inl (aI Co)))]) [4, 5, 0, 1, 2, 3] (by decide) rfl) hS ls (lv_sub hl [2, 3, 1, 4, 0] rfl)
                · refine lv_aload_n hx hb d_Mo_draw_46 rfl (lv_at hl 1 rfl) ?_
                  refine lv_iload hx hb d_Mo_draw_47 (lv_at hl 4 rfl) ?_
                  refine lv_iload_n hx hb d_Mo_draw_49 rfl (lv_at hl 3 rfl) ?_
                  refine vp_callSi (va_runV (As := [.int (iZ xx), .int (iZ yy)]) (rest := []) ⟨hx, hb, hml, hown, hts⟩ (c_Model_isDark l dC dI hm zd zb zt zs zc zo tw w h mn n fx fy fa fb fc qr fo cI K2 (dwC w h mn P pic xx yy) xx yy (by first | omega | assumption) (by first | omega | assumption) (by first | omega | assumption) (by first | omega | assumption) (j3.1) (dw_off hO _ _) (by first | omega | assumption) (by first | omega | assumption) (by first | omega | assumption) (by first | omega | assumption)) (cwV 2 hts (gV t_827 t_829 s_27 t_6 t_830) rfl rfl rfl (by decide +kernel) ⟨Nat.le_of_ble_eq_true rfl, Nat.le_of_ble_eq_true rfl⟩) ⟨zPr_blind, va_recv hK hP (ci := 6) (q0 := 0) rfl rfl, zPr_pre hP hK [0, 1] [0] rfl rfl⟩ rfl rfl hl.1 rfl (lv_room (Nat.le_of_ble_eq_true rfl)) d_Mo_draw_50 ⟨Nat.le_of_ble_eq_true rfl, Nat.le_of_ble_eq_true rfl⟩).run (fun r_50 q_50 => ?_)
                  obtain rfl := q_50
                  refine zn_eq (v2 := .int (bI (pic xx yy))) (congrArg (fun z9 => Value.int (bI z9)) (dw_cur xx yy)) ?_
                  refine lv_aload_n hx hb d_Mo_draw_53 rfl (lv_at hl 1 rfl) ?_
                  refine va_get (D := (dC, dI)) (ci := 6) (v := .int (iZ mn)) (C := R_Mo) (T := T_Mo) (N := 18) hx hb hts wi_Mo hown hK hP 0 rfl rfl 3 (by decide) (hts _ t_687) (fun _ h9 => h9) rfl d_Mo_draw_54 ?_
                  refine lv_iconst (v := iZ (1)) hx hb d_Mo_draw_57 rfl ?_
                  refine zi_ne (tgt := 65) hx hb d_Mo_draw_58 (by decide) (by omega) (by omega) (by omega) (by omega) (fun c_58 => ?_) (fun c_58 => ?_)
                  · refine lv_iconst (v := iZ (0)) hx hb d_Mo_draw_65 rfl ?_
                    refine lv_icmp_ne (tgt := 76) hx hb d_Mo_draw_66 (by decide) (fun c_66 => ?_) (fun c_66 => ?_)
                    · refine lv_iinc (v := iZ (xx + 1)) (lv' := [(4, .int (iZ (xx + 1))), (2, .int (iZ (n2_ + 1))), (0, .ref hm), (1, .int (iZ ff)), (3, .int (iZ yy))]) hx hb d_Mo_draw_76 hl (k := 4) rfl (iZ_add _ _) (by decide) rfl (fun ls hl => ?_)
                      refine lv_goto (tgt := 15) hx hb d_Mo_draw_79 (by decide) ?_
                      exact ih_15 (xx + 1) (n2_ + 1) K2 (by omega) (by omega) (by first | exact dw_no j3 c_32 | exact dw_tog j3 (show 0 ≤ xx by omega) (show xx < w by omega) (show 0 ≤ yy by omega) (show yy < h by omega) c_32 q_73 (fl_2 c_43 _) | exact dw_tog j3 (show 0 ≤ xx by omega) (show xx < w by omega) (show 0 ≤ yy by omega) (show yy < h by omega) c_32 q_73 (fl_0t mn1 mn2 c_43 c_58 c_66) | exact dw_tog j3 (show 0 ≤ xx by omega) (show xx < w by omega) (show 0 ≤ yy by omega) (show yy < h by omega) c_32 q_73 (fl_1t c_58 c_66) | exact dw_keep j3 (show 0 ≤ xx by omega) (show xx < w by omega) (show 0 ≤ yy by omega) (show yy < h by omega) c_32 (fl_0k mn1 mn2 c_43 c_58 c_66) | exact dw_keep j3 (show 0 ≤ xx by omega) (show xx < w by omega) (show 0 ≤ yy by omega) (show yy < h by omega) c_32 (fl_1k c_58 c_66)) (by omega) _ _ hP hD hS ls (lv_sub hl [2, 3, 1, 4, 0] rfl)
                    · refine lv_aload_n hx hb d_Mo_draw_69 rfl (lv_at hl 1 rfl) ?_
                      refine lv_iload hx hb d_Mo_draw_70 (lv_at hl 4 rfl) ?_
                      refine lv_iload_n hx hb d_Mo_draw_72 rfl (lv_at hl 3 rfl) ?_
                      refine zc_v (w1 := fun (u_73 : Int → Int32) => [(hm, .inr (6, [.int (iZ tw), .int (iZ w), .int (iZ h), .int (iZ mn), .ref zd, .ref zb, .ref zt, .int (iZ n), .ref zs, .ref zc, .int (iZ fx), .int (iZ fy), .int (iZ fa), .int (iZ fb), .int (iZ fc), .int (iZ qr), .int (iZ fo), .ref zo])), (zd, .inl (cI, 32768, .inl (aI u_73)))]) (wr := [(zt, .inl (cI, 4096, .inl (aI Dt))), (zs, .inl (cI, 12, .inl (aI Sz))), (zc, .inl (cI, 32768, .inl (aI Ce))), (zo, .inl (cZ, 5200, .inl (aI Co)))]) (va_runV (As := [.int (iZ xx), .int (iZ yy)]) (rest := []) ⟨hx, hb, hml, hown, hts⟩ (c_Model_other l dC dI hm zd zb zt zs zc zo tw w h mn n fx fy fa fb fc qr fo cI K2 (dwC w h mn P pic xx yy) xx yy H.size (j3.1) (by first | omega | assumption) (by first | omega | assumption) (by first | omega | assumption) (by first | omega | assumption)) (cwV 2 hts (gV t_835 t_837 s_29 t_6 t_838) rfl rfl rfl (by decide +kernel) ⟨Nat.le_of_ble_eq_true rfl, Nat.le_of_ble_eq_true rfl⟩) ⟨zPm_blind, va_recv hK hP (ci := 6) (q0 := 0) rfl rfl, zPm_pre hP hD hK [0, 1] [0] rfl rfl rfl rfl⟩ rfl rfl hl.1 rfl (lv_room (Nat.le_of_ble_eq_true rfl)) d_Mo_draw_73 ⟨Nat.le_of_ble_eq_true rfl, Nat.le_of_ble_eq_true rfl⟩) hP hD hS hA [0, 1] [2, 3, 4, 5] rfl rfl rfl (by decide) (fun u_73 H locs q_73 hP hD hS => ?_)
                      have hP : va_P (dC, dI) vwCl [(zt, .inl (cI, 4096, .inl (aI Dt))), (zs, .inl (cI, 12, .inl (aI Sz))), (zc, .inl (cI, 32768, .inl (aI Ce))), (zo, .inl (cZ, 5200, .inl (aI Co))), (hm, .inr (6, [.int (iZ tw), .int (iZ w), .int (iZ h), .int (iZ mn), .ref zd, .ref zb, .ref zt, .int (iZ n), .ref zs, .ref zc, .int (iZ fx), .int (iZ fy), .int (iZ fa), .int (iZ fb), .int (iZ fc), .int (iZ qr), .int (iZ fo), .ref zo])), (zd, .inl (cI, 32768, .inl (aI u_73)))] H := hP
                      have hD : va_D A [(zt, .inl (cI, 4096, .inl (aI Dt))), (zs, .inl (cI, 12, .inl (aI Sz))), (zc, .inl (cI, 32768, .inl (aI Ce))), (zo, .inl (cZ, 5200, .inl (aI Co))), (hm, .inr (6, [.int (iZ tw), .int (iZ w), .int (iZ h), .int (iZ mn), .ref zd, .ref zb, .ref zt, .int (iZ n), .ref zs, .ref zc, .int (iZ fx), .int (iZ fy), .int (iZ fa), .int (iZ fb), .int (iZ fc), .int (iZ qr), .int (iZ fo), .ref zo])), (zd, .inl (cI, 32768, .inl (aI u_73)))] := hD
                      refine lv_iinc (v := iZ (xx + 1)) (lv' := [(4, .int (iZ (xx + 1))), (2, .int (iZ (n2_ + 1))), (0, .ref hm), (1, .int (iZ ff)), (3, .int (iZ yy))]) hx hb d_Mo_draw_76 hl (k := 4) rfl (iZ_add _ _) (by decide) rfl (fun ls hl => ?_)
                      refine lv_goto (tgt := 15) hx hb d_Mo_draw_79 (by decide) ?_
                      exact ih_15 (xx + 1) (n2_ + 1) u_73 (by omega) (by omega) (by first | exact dw_no j3 c_32 | exact dw_tog j3 (show 0 ≤ xx by omega) (show xx < w by omega) (show 0 ≤ yy by omega) (show yy < h by omega) c_32 q_73 (fl_2 c_43 _) | exact dw_tog j3 (show 0 ≤ xx by omega) (show xx < w by omega) (show 0 ≤ yy by omega) (show yy < h by omega) c_32 q_73 (fl_0t mn1 mn2 c_43 c_58 c_66) | exact dw_tog j3 (show 0 ≤ xx by omega) (show xx < w by omega) (show 0 ≤ yy by omega) (show yy < h by omega) c_32 q_73 (fl_1t c_58 c_66) | exact dw_keep j3 (show 0 ≤ xx by omega) (show xx < w by omega) (show 0 ≤ yy by omega) (show yy < h by omega) c_32 (fl_0k mn1 mn2 c_43 c_58 c_66) | exact dw_keep j3 (show 0 ≤ xx by omega) (show xx < w by omega) (show 0 ≤ yy by omega) (show yy < h by omega) c_32 (fl_1k c_58 c_66)) (by omega) _ _ (hP.sub (ws' := [(hm, .inr (6, [.int (iZ tw), .int (iZ w), .int (iZ h), .int (iZ mn), .ref zd, .ref zb, .ref zt, .int (iZ n), .ref zs, .ref zc, .int (iZ fx), .int (iZ fy), .int (iZ fa), .int (iZ fb), .int (iZ fc), .int (iZ qr), .int (iZ fo), .ref zo])), (zd, .inl (cI, 32768, .inl (aI u_73))), (zt, .inl (cI, 4096, .inl (aI Dt))), (zs, .inl (cI, 12, .inl (aI Sz))), (zc, .inl (cI, 32768, .inl (aI Ce))), (zo, .inl (cZ, 5200, .inl (aI Co)))]) [4, 5, 0, 1, 2, 3] rfl) (hD.sub (ws' := [(hm, .inr (6, [.int (iZ tw), .int (iZ w), .int (iZ h), .int (iZ mn), .ref zd, .ref zb, .ref zt, .int (iZ n), .ref zs, .ref zc, .int (iZ fx), .int (iZ fy), .int (iZ fa), .int (iZ fb), .int (iZ fc), .int (iZ qr), .int (iZ fo), .ref zo])), (zd, .inl (cI, 32768, .inl (aI u_73))), (zt, .inl (cI, 4096, .inl (aI Dt))), (zs, .inl (cI, 12, .inl (aI Sz))), (zc, .inl (cI, 32768, .inl (aI Ce))), (zo, .inl (cZ, 5200, .inl (aI Co)))]) [4, 5, 0, 1, 2, 3] (by decide) rfl) hS ls (lv_sub hl [2, 3, 1, 4, 0] rfl)
                  · refine lv_iconst (v := iZ (1)) hx hb d_Mo_draw_61 rfl ?_
                    refine lv_goto (tgt := 66) hx hb d_Mo_draw_62 (by decide) ?_
                    refine lv_icmp_ne (tgt := 76) hx hb d_Mo_draw_66 (by decide) (fun c_66 => ?_) (fun c_66 => ?_)
                    · refine lv_iinc (v := iZ (xx + 1)) (lv' := [(4, .int (iZ (xx + 1))), (2, .int (iZ (n2_ + 1))), (0, .ref hm), (1, .int (iZ ff)), (3, .int (iZ yy))]) hx hb d_Mo_draw_76 hl (k := 4) rfl (iZ_add _ _) (by decide) rfl (fun ls hl => ?_)
                      refine lv_goto (tgt := 15) hx hb d_Mo_draw_79 (by decide) ?_
                      exact ih_15 (xx + 1) (n2_ + 1) K2 (by omega) (by omega) (by first | exact dw_no j3 c_32 | exact dw_tog j3 (show 0 ≤ xx by omega) (show xx < w by omega) (show 0 ≤ yy by omega) (show yy < h by omega) c_32 q_73 (fl_2 c_43 _) | exact dw_tog j3 (show 0 ≤ xx by omega) (show xx < w by omega) (show 0 ≤ yy by omega) (show yy < h by omega) c_32 q_73 (fl_0t mn1 mn2 c_43 c_58 c_66) | exact dw_tog j3 (show 0 ≤ xx by omega) (show xx < w by omega) (show 0 ≤ yy by omega) (show yy < h by omega) c_32 q_73 (fl_1t c_58 c_66) | exact dw_keep j3 (show 0 ≤ xx by omega) (show xx < w by omega) (show 0 ≤ yy by omega) (show yy < h by omega) c_32 (fl_0k mn1 mn2 c_43 c_58 c_66) | exact dw_keep j3 (show 0 ≤ xx by omega) (show xx < w by omega) (show 0 ≤ yy by omega) (show yy < h by omega) c_32 (fl_1k c_58 c_66)) (by omega) _ _ hP hD hS ls (lv_sub hl [2, 3, 1, 4, 0] rfl)
                    · refine lv_aload_n hx hb d_Mo_draw_69 rfl (lv_at hl 1 rfl) ?_
                      refine lv_iload hx hb d_Mo_draw_70 (lv_at hl 4 rfl) ?_
                      refine lv_iload_n hx hb d_Mo_draw_72 rfl (lv_at hl 3 rfl) ?_
                      refine zc_v (w1 := fun (u_73 : Int → Int32) => [(hm, .inr (6, [.int (iZ tw), .int (iZ w), .int (iZ h), .int (iZ mn), .ref zd, .ref zb, .ref zt, .int (iZ n), .ref zs, .ref zc, .int (iZ fx), .int (iZ fy), .int (iZ fa), .int (iZ fb), .int (iZ fc), .int (iZ qr), .int (iZ fo), .ref zo])), (zd, .inl (cI, 32768, .inl (aI u_73)))]) (wr := [(zt, .inl (cI, 4096, .inl (aI Dt))), (zs, .inl (cI, 12, .inl (aI Sz))), (zc, .inl (cI, 32768, .inl (aI Ce))), (zo, .inl (cZ, 5200, .inl (aI Co)))]) (va_runV (As := [.int (iZ xx), .int (iZ yy)]) (rest := []) ⟨hx, hb, hml, hown, hts⟩ (c_Model_other l dC dI hm zd zb zt zs zc zo tw w h mn n fx fy fa fb fc qr fo cI K2 (dwC w h mn P pic xx yy) xx yy H.size (j3.1) (by first | omega | assumption) (by first | omega | assumption) (by first | omega | assumption) (by first | omega | assumption)) (cwV 2 hts (gV t_835 t_837 s_29 t_6 t_838) rfl rfl rfl (by decide +kernel) ⟨Nat.le_of_ble_eq_true rfl, Nat.le_of_ble_eq_true rfl⟩) ⟨zPm_blind, va_recv hK hP (ci := 6) (q0 := 0) rfl rfl, zPm_pre hP hD hK [0, 1] [0] rfl rfl rfl rfl⟩ rfl rfl hl.1 rfl (lv_room (Nat.le_of_ble_eq_true rfl)) d_Mo_draw_73 ⟨Nat.le_of_ble_eq_true rfl, Nat.le_of_ble_eq_true rfl⟩) hP hD hS hA [0, 1] [2, 3, 4, 5] rfl rfl rfl (by decide) (fun u_73 H locs q_73 hP hD hS => ?_)
                      have hP : va_P (dC, dI) vwCl [(zt, .inl (cI, 4096, .inl (aI Dt))), (zs, .inl (cI, 12, .inl (aI Sz))), (zc, .inl (cI, 32768, .inl (aI Ce))), (zo, .inl (cZ, 5200, .inl (aI Co))), (hm, .inr (6, [.int (iZ tw), .int (iZ w), .int (iZ h), .int (iZ mn), .ref zd, .ref zb, .ref zt, .int (iZ n), .ref zs, .ref zc, .int (iZ fx), .int (iZ fy), .int (iZ fa), .int (iZ fb), .int (iZ fc), .int (iZ qr), .int (iZ fo), .ref zo])), (zd, .inl (cI, 32768, .inl (aI u_73)))] H := hP
                      have hD : va_D A [(zt, .inl (cI, 4096, .inl (aI Dt))), (zs, .inl (cI, 12, .inl (aI Sz))), (zc, .inl (cI, 32768, .inl (aI Ce))), (zo, .inl (cZ, 5200, .inl (aI Co))), (hm, .inr (6, [.int (iZ tw), .int (iZ w), .int (iZ h), .int (iZ mn), .ref zd, .ref zb, .ref zt, .int (iZ n), .ref zs, .ref zc, .int (iZ fx), .int (iZ fy), .int (iZ fa), .int (iZ fb), .int (iZ fc), .int (iZ qr), .int (iZ fo), .ref zo])), (zd, .inl (cI, 32768, .inl (aI u_73)))] := hD
                      refine lv_iinc (v := iZ (xx + 1)) (lv' := [(4, .int (iZ (xx + 1))), (2, .int (iZ (n2_ + 1))), (0, .ref hm), (1, .int (iZ ff)), (3, .int (iZ yy))]) hx hb d_Mo_draw_76 hl (k := 4) rfl (iZ_add _ _) (by decide) rfl (fun ls hl => ?_)
                      refine lv_goto (tgt := 15) hx hb d_Mo_draw_79 (by decide) ?_
                      exact ih_15 (xx + 1) (n2_ + 1) u_73 (by omega) (by omega) (by first | exact dw_no j3 c_32 | exact dw_tog j3 (show 0 ≤ xx by omega) (show xx < w by omega) (show 0 ≤ yy by omega) (show yy < h by omega) c_32 q_73 (fl_2 c_43 _) | exact dw_tog j3 (show 0 ≤ xx by omega) (show xx < w by omega) (show 0 ≤ yy by omega) (show yy < h by omega) c_32 q_73 (fl_0t mn1 mn2 c_43 c_58 c_66) | exact dw_tog j3 (show 0 ≤ xx by omega) (show xx < w by omega) (show 0 ≤ yy by omega) (show yy < h by omega) c_32 q_73 (fl_1t c_58 c_66) | exact dw_keep j3 (show 0 ≤ xx by omega) (show xx < w by omega) (show 0 ≤ yy by omega) (show yy < h by omega) c_32 (fl_0k mn1 mn2 c_43 c_58 c_66) | exact dw_keep j3 (show 0 ≤ xx by omega) (show xx < w by omega) (show 0 ≤ yy by omega) (show yy < h by omega) c_32 (fl_1k c_58 c_66)) (by omega) _ _ (hP.sub (ws' := [(hm, .inr (6, [.int (iZ tw), .int (iZ w), .int (iZ h), .int (iZ mn), .ref zd, .ref zb, .ref zt, .int (iZ n), .ref zs, .ref zc, .int (iZ fx), .int (iZ fy), .int (iZ fa), .int (iZ fb), .int (iZ fc), .int (iZ qr), .int (iZ fo), .ref zo])), (zd, .inl (cI, 32768, .inl (aI u_73))), (zt, .inl (cI, 4096, .inl (aI Dt))), (zs, .inl (cI, 12, .inl (aI Sz))), (zc, .inl (cI, 32768, .inl (aI Ce))), (zo, .inl (cZ, 5200, .inl (aI Co)))]) [4, 5, 0, 1, 2, 3] rfl) (hD.sub (ws' := [(hm, .inr (6, [.int (iZ tw), .int (iZ w), .int (iZ h), .int (iZ mn), .ref zd, .ref zb, .ref zt, .int (iZ n), .ref zs, .ref zc, .int (iZ fx), .int (iZ fy), .int (iZ fa), .int (iZ fb), .int (iZ fc), .int (iZ qr), .int (iZ fo), .ref zo])), (zd, .inl (cI, 32768, .inl (aI u_73))), (zt, .inl (cI, 4096, .inl (aI Dt))), (zs, .inl (cI, 12, .inl (aI Sz))), (zc, .inl (cI, 32768, .inl (aI Ce))), (zo, .inl (cZ, 5200, .inl (aI Co)))]) [4, 5, 0, 1, 2, 3] (by decide) rfl) hS ls (lv_sub hl [2, 3, 1, 4, 0] rfl)
        exact LP_15 _ 0 nn K (by omega) (by omega) (i3) (Nat.lt_succ_self _) _ _ hP hD hS ls (lv_sub hl [1, 2, 3, 4, 0] rfl)
  exact LP_4 _ 0 0 Dk (by omega) (by omega) (dw_0 hM) (Nat.lt_succ_self _) _ _ hP hD hS ls (lv_sub hl [2, 3, 1, 0] rfl)
