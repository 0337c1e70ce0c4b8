/-! figures drawn block by block -/
def acI (w h mn : Int) (P pic : Int → Int → Bool) (K : Int → Int64) (dn : Int) : Prop := Rep K (drw mn (fun x y => onB w h x y && P x y) pic) ∧ dn = cnt w h P
theorem ac_0 {w h mn : Int} {P pic : Int → Int → Bool} {G : Int → Int64} (hR : Rep G pic) (h0 : ∀ x y, P x y = false) : acI w h mn P pic G 0 := by
  refine ⟨?_, (cnt_no (fun x y _ _ _ _ => h0 x y)).symm⟩
  rw [drw_no (fun x y => by rw [h0 x y, Bool.and_false])]; exact hR
theorem ac_ext {w h mn : Int} {P P2 pic : Int → Int → Bool} {K : Int → Int64} {dn : Int} (q : acI w h mn P pic K dn) (he : ∀ x y, onB w h x y = true → P x y = P2 x y) : acI w h mn P2 pic K dn := by
  refine ⟨?_, ?_⟩
  · rw [drw_ext (T := fun x y => onB w h x y && P x y)]
    · exact q.1
    · intro x y
      cases o : onB w h x y
      · rfl
      · rw [he x y o]
  · rw [q.2]
    exact cnt_ext (fun x y a b c d => he x y (decide_eq_true ⟨a, b, c, d⟩))
theorem ac_step {w h mn : Int} {P T P2 pic : Int → Int → Bool} {K u : Int → Int64} {dn : Int} (q : acI w h mn P pic K dn) (hu : Rep u (drw mn (fun x y => onB w h x y && T x y) (drw mn (fun x y => onB w h x y && P x y) pic))) (hd : ∀ x y, P x y = true → T x y = false) (he : ∀ x y, (P x y || T x y) = P2 x y) : acI w h mn P2 pic u (dn + cnt w h T) := by
  refine ⟨?_, ?_⟩
  · rw [← drw_two hd he]; exact hu
  · rw [q.2]; exact cnt_two hd he
theorem bor_iff {A B C : Bool} (h : (A = true ∨ B = true) ↔ C = true) : (A || B) = C := by
  cases A <;> cases B <;> cases C <;> simp_all
theorem b_iff {A B : Bool} (h : A = true ↔ B = true) : A = B := by
  cases A <;> cases B <;> simp_all
/-! pictures -/
def pcD (dr : Int → Int) (k : Int) : Bool := bitD (dr (k / 8)) (k % 8)
def picB (dr : Int → Int) (x y bw rb rows px py : Int) : Bool := decide (0 ≤ px - x ∧ px - x < bw ∧ 0 ≤ py - y ∧ py - y < rows) && pcD dr (8 * rb * (py - y) + (px - x))
def picP (dr : Int → Int) (x y bw rb rows r c px py : Int) : Bool := picB dr x y bw rb rows px py && decide (py - y < r ∨ (py - y = r ∧ px - x < c))
theorem pc_0 {dr : Int → Int} {x y bw rb rows : Int} (px py : Int) : picP dr x y bw rb rows 0 0 px py = false := by
  unfold picP picB
  by_cases e : py - y < 0 ∨ (py - y = 0 ∧ px - x < 0)
  · rw [decide_eq_false (show ¬ (0 ≤ px - x ∧ px - x < bw ∧ 0 ≤ py - y ∧ py - y < rows) by omega)]; simp
  · rw [decide_eq_false e, Bool.and_false]
theorem pc_row {dr : Int → Int} {x y bw rb rows r : Int} (px py : Int) : picP dr x y bw rb rows r bw px py = picP dr x y bw rb rows (r + 1) 0 px py := by
  unfold picP
  cases e : picB dr x y bw rb rows px py
  · rfl
  · unfold picB at e
    rw [Bool.and_eq_true] at e
    have := of_decide_eq_true e.1
    rw [decide_eq_decide.mpr (show (py - y < r ∨ (py - y = r ∧ px - x < bw)) ↔ (py - y < r + 1 ∨ (py - y = r + 1 ∧ px - x < 0)) by omega)]
theorem pc_end {dr : Int → Int} {x y bw rb rows r : Int} (hr : rows ≤ r) (px py : Int) : picP dr x y bw rb rows r 0 px py = picB dr x y bw rb rows px py := by
  unfold picP
  cases e : picB dr x y bw rb rows px py
  · rfl
  · unfold picB at e
    rw [Bool.and_eq_true] at e
    have := of_decide_eq_true e.1
    rw [decide_eq_true (show py - y < r ∨ (py - y = r ∧ px - x < 0) by omega)]; rfl
theorem pc_no {dr : Int → Int} {x y bw rb rows r c : Int} (hb : pcD dr (8 * rb * r + c) = false) (px py : Int) : picP dr x y bw rb rows r c px py = picP dr x y bw rb rows r (c + 1) px py := by
  unfold picP
  cases e : picB dr x y bw rb rows px py
  · rfl
  · by_cases z : py - y = r ∧ px - x = c
    · unfold picB at e
      rw [Bool.and_eq_true, z.1, z.2, hb] at e
      exact absurd e.2 (by decide)
    · rw [decide_eq_decide.mpr (show (py - y < r ∨ (py - y = r ∧ px - x < c)) ↔ (py - y < r ∨ (py - y = r ∧ px - x < c + 1)) by omega)]
theorem pc_yes {dr : Int → Int} {x y bw rb rows r c : Int} (r0 : 0 ≤ r) (r1 : r < rows) (c0 : 0 ≤ c) (c1 : c < bw) (hb : pcD dr (8 * rb * r + c) = true) (px py : Int) : (picP dr x y bw rb rows r c px py || bxB (x + c) (y + r) (x + c) (y + r) px py) = picP dr x y bw rb rows r (c + 1) px py := by
  apply bor_iff
  unfold picP bxB
  rw [Bool.and_eq_true, Bool.and_eq_true, decide_eq_true_iff, decide_eq_true_iff, decide_eq_true_iff]
  constructor
  · rintro (⟨a, b⟩ | a)
    · exact ⟨a, by omega⟩
    · refine ⟨?_, by omega⟩
      unfold picB
      rw [show py - y = r by omega, show px - x = c by omega, hb, decide_eq_true (by omega)]; rfl
  · rintro ⟨a, b⟩
    by_cases z : py - y < r ∨ (py - y = r ∧ px - x < c)
    · exact Or.inl ⟨a, z⟩
    · exact Or.inr (by omega)
theorem pc_d {dr : Int → Int} {x y bw rb rows r c : Int} (px py : Int) (q : picP dr x y bw rb rows r c px py = true) : bxB (x + c) (y + r) (x + c) (y + r) px py = false := by
  unfold picP at q
  rw [Bool.and_eq_true] at q
  have := of_decide_eq_true q.2
  unfold bxB; exact decide_eq_false (by omega)
theorem pc_ix {rb r c n rows bw : Int} (h : n = rows * rb) (rb1 : 1 ≤ rb) (r0 : 0 ≤ r) (r1 : r < rows) (c0 : 0 ≤ c) (c1 : c < bw) (hb : bw ≤ 8 * rb) : 0 ≤ 8 * rb * r + c ∧ 8 * rb * r + c < 8 * n := by
  have a : 8 * rb * r ≤ 8 * rb * (rows - 1) := Int.mul_le_mul_of_nonneg_left (by omega) (by omega)
  have b : 0 ≤ 8 * rb * r := Int.mul_nonneg (by omega) r0
  have e : 8 * rb * (rows - 1) = 8 * (rows * rb) - 8 * rb := by grind
  omega
/-! squares -/
theorem dv_iff {m i c : Int} (m0 : 0 < m) : i / m = c ↔ (m * c ≤ i ∧ i ≤ m * c + m - 1) := by
  constructor
  · rintro rfl
    have a := Int.mul_ediv_add_emod i m
    have b := Int.emod_nonneg i (show m ≠ 0 by omega)
    have d := Int.emod_lt_of_pos i m0
    omega
  · rintro ⟨a, b⟩
    have e1 : c ≤ i / m := (Int.le_ediv_iff_mul_le m0).mpr (by rw [Int.mul_comm]; exact a)
    have e2 : i / m < c + 1 := (Int.ediv_lt_iff_lt_mul m0).mpr (by rw [Int.add_mul, Int.one_mul, Int.mul_comm]; omega)
    omega
def sqB (dr : Int → Int) (q x y n m px py : Int) : Bool := decide (0 ≤ alg q x y px py ∧ 0 ≤ acr q x y px py ∧ alg q x y px py / m < n ∧ acr q x y px py / m < n) && pcD dr (n * (acr q x y px py / m) + alg q x y px py / m)
def sqP (dr : Int → Int) (q x y n m r c px py : Int) : Bool := sqB dr q x y n m px py && decide (acr q x y px py / m < r ∨ (acr q x y px py / m = r ∧ alg q x y px py / m < c))
theorem st_div {q x y m r c : Int} (m0 : 0 < m) (px py : Int) : stB q x y (m * c) (m * r) m m px py = decide (alg q x y px py / m = c ∧ acr q x y px py / m = r) := by
  unfold stB
  exact decide_eq_decide.mpr (by rw [dv_iff m0, dv_iff m0]; omega)
theorem dv_nn {m i : Int} (m0 : 0 < m) (h : 0 ≤ i) : 0 ≤ i / m := Int.ediv_nonneg h (by omega)
theorem sq_0 {dr : Int → Int} {q x y n m : Int} (m0 : 0 < m) (px py : Int) : sqP dr q x y n m 0 0 px py = false := by
  unfold sqP sqB
  by_cases e : 0 ≤ alg q x y px py ∧ 0 ≤ acr q x y px py ∧ alg q x y px py / m < n ∧ acr q x y px py / m < n
  · have a := dv_nn m0 e.1
    have b := dv_nn m0 e.2.1
    rw [decide_eq_false (show ¬ (acr q x y px py / m < 0 ∨ (acr q x y px py / m = 0 ∧ alg q x y px py / m < 0)) by omega), Bool.and_false]
  · rw [decide_eq_false e]; simp
theorem sq_row {dr : Int → Int} {q x y n m r : Int} (m0 : 0 < m) (px py : Int) : sqP dr q x y n m r n px py = sqP dr q x y n m (r + 1) 0 px py := by
  unfold sqP
  cases e : sqB dr q x y n m px py
  · rfl
  · unfold sqB at e
    rw [Bool.and_eq_true] at e
    have z := of_decide_eq_true e.1
    have a := dv_nn m0 z.1
    rw [decide_eq_decide.mpr (show (acr q x y px py / m < r ∨ (acr q x y px py / m = r ∧ alg q x y px py / m < n)) ↔ (acr q x y px py / m < r + 1 ∨ (acr q x y px py / m = r + 1 ∧ alg q x y px py / m < 0)) by omega)]
theorem sq_end {dr : Int → Int} {q x y n m r : Int} (hr : n ≤ r) (px py : Int) : sqP dr q x y n m r 0 px py = sqB dr q x y n m px py := by
  unfold sqP
  cases e : sqB dr q x y n m px py
  · rfl
  · unfold sqB at e
    rw [Bool.and_eq_true] at e
    have z := of_decide_eq_true e.1
    rw [decide_eq_true (show acr q x y px py / m < r ∨ (acr q x y px py / m = r ∧ alg q x y px py / m < 0) by omega)]; rfl
theorem sq_no {dr : Int → Int} {q x y n m r c : Int} (hb : pcD dr (n * r + c) = false) (px py : Int) : sqP dr q x y n m r c px py = sqP dr q x y n m r (c + 1) px py := by
  unfold sqP
  cases e : sqB dr q x y n m px py
  · rfl
  · by_cases z : acr q x y px py / m = r ∧ alg q x y px py / m = c
    · unfold sqB at e
      rw [Bool.and_eq_true, z.1, z.2, hb] at e
      exact absurd e.2 (by decide)
    · rw [decide_eq_decide.mpr (show (acr q x y px py / m < r ∨ (acr q x y px py / m = r ∧ alg q x y px py / m < c)) ↔ (acr q x y px py / m < r ∨ (acr q x y px py / m = r ∧ alg q x y px py / m < c + 1)) by omega)]
theorem sq_yes {dr : Int → Int} {q x y n m r c : Int} (m0 : 0 < m) (r0 : 0 ≤ r) (r1 : r < n) (c0 : 0 ≤ c) (c1 : c < n) (hb : pcD dr (n * r + c) = true) (px py : Int) : (sqP dr q x y n m r c px py || stB q x y (m * c) (m * r) m m px py) = sqP dr q x y n m r (c + 1) px py := by
  rw [st_div m0]
  apply bor_iff
  unfold sqP
  rw [Bool.and_eq_true, Bool.and_eq_true, decide_eq_true_iff, decide_eq_true_iff, decide_eq_true_iff]
  constructor
  · rintro (⟨a, b⟩ | a)
    · exact ⟨a, by omega⟩
    · refine ⟨?_, by omega⟩
      have e1 := (dv_iff m0).mp a.1
      have e2 := (dv_iff m0).mp a.2
      have e3 : 0 ≤ m * c := Int.mul_nonneg (by omega) c0
      have e4 : 0 ≤ m * r := Int.mul_nonneg (by omega) r0
      unfold sqB
      rw [a.1, a.2, hb, decide_eq_true (by omega)]; rfl
  · rintro ⟨a, b⟩
    by_cases z : acr q x y px py / m < r ∨ (acr q x y px py / m = r ∧ alg q x y px py / m < c)
    · exact Or.inl ⟨a, z⟩
    · exact Or.inr (by omega)
theorem sq_d {dr : Int → Int} {q x y n m r c : Int} (m0 : 0 < m) (px py : Int) (z : sqP dr q x y n m r c px py = true) : stB q x y (m * c) (m * r) m m px py = false := by
  rw [st_div m0]
  unfold sqP at z
  rw [Bool.and_eq_true] at z
  have := of_decide_eq_true z.2
  exact decide_eq_false (by omega)
theorem sq_ix {n r c k : Int} (h : n * n ≤ 8 * k) (r0 : 0 ≤ r) (r1 : r < n) (c0 : 0 ≤ c) (c1 : c < n) : 0 ≤ n * r + c ∧ n * r + c < 8 * k := by
  have a : n * r ≤ n * (n - 1) := Int.mul_le_mul_of_nonneg_left (by omega) (by omega)
  have b : 0 ≤ n * r := Int.mul_nonneg (by omega) r0
  have e : n * (n - 1) = n * n - n := by grind
  omega
theorem mul_in {m c M C : Int} (m0 : 0 ≤ m) (m1 : m ≤ M) (c0 : 0 ≤ c) (c1 : c ≤ C) : 0 ≤ m * c ∧ m * c ≤ M * C := ⟨Int.mul_nonneg m0 c0, Int.mul_le_mul m1 c1 c0 (by omega)⟩
/-! bars -/
def stN (dr : Int → Int) (m : Int) : Nat → Int
  | 0 => 0
  | k + 1 => stN dr m k + m * dr k
def brN (dr : Int → Int) (m : Int) : Nat → Int → Bool
  | 0, _ => false
  | k + 1, i => brN dr m k i || (decide (((k : Int) % 2 = 0) ∧ stN dr m k ≤ i ∧ i < stN dr m (k + 1)))
def baB (dr : Int → Int) (q x y bh m : Int) (k : Nat) (px py : Int) : Bool := brN dr m k (alg q x y px py) && decide (0 ≤ acr q x y px py ∧ acr q x y px py < bh)
theorem br_lt {dr : Int → Int} {m : Int} (hd : ∀ k, 0 ≤ m * dr k) : ∀ {k : Nat} {i : Int}, brN dr m k i = true → i < stN dr m k
  | 0, _, h => absurd (show false = true from h) (by decide)
  | k + 1, i, h => by
    rw [show brN dr m (k + 1) i = (brN dr m k i || _) from rfl, Bool.or_eq_true] at h
    rcases h with h | h
    · have := br_lt hd h
      have := hd k
      show i < stN dr m k + m * dr k
      omega
    · exact (of_decide_eq_true h).2.2
theorem ba_yes {dr : Int → Int} {q x y bh m : Int} {k : Nat} (he : (k : Int) % 2 = 0) (px py : Int) : (baB dr q x y bh m k px py || stB q x y (stN dr m k) 0 (m * dr k) bh px py) = baB dr q x y bh m (k + 1) px py := by
  apply bor_iff
  unfold baB stB
  show _ ↔ ((brN dr m k _ || decide ((k : Int) % 2 = 0 ∧ stN dr m k ≤ _ ∧ _ < stN dr m k + m * dr k)) && _) = true
  rw [Bool.and_eq_true, Bool.and_eq_true, Bool.or_eq_true, decide_eq_true_iff, decide_eq_true_iff, decide_eq_true_iff]
  constructor
  · rintro (⟨a, b⟩ | a)
    · exact ⟨Or.inl a, b⟩
    · exact ⟨Or.inr (by omega), by omega⟩
  · rintro ⟨a | a, b⟩
    · exact Or.inl ⟨a, b⟩
    · exact Or.inr (by omega)
theorem ba_no {dr : Int → Int} {q x y bh m : Int} {k : Nat} (he : ¬ (k : Int) % 2 = 0) (px py : Int) : baB dr q x y bh m k px py = baB dr q x y bh m (k + 1) px py := by
  unfold baB
  show _ = ((brN dr m k _ || decide ((k : Int) % 2 = 0 ∧ stN dr m k ≤ _ ∧ _ < stN dr m k + m * dr k)) && _)
  rw [decide_eq_false (show ¬ ((k : Int) % 2 = 0 ∧ stN dr m k ≤ alg q x y px py ∧ alg q x y px py < stN dr m k + m * dr k) from fun z => he z.1), Bool.or_false]
theorem ba_d {dr : Int → Int} {q x y bh m : Int} (hd : ∀ k, 0 ≤ m * dr k) {k : Nat} (px py : Int) (z : baB dr q x y bh m k px py = true) : stB q x y (stN dr m k) 0 (m * dr k) bh px py = false := by
  unfold baB at z
  rw [Bool.and_eq_true] at z
  have := br_lt hd z.1
  unfold stB; exact decide_eq_false (by omega)
theorem d_D_picture_0 : decode c_yD_picture 0 = .ok (.iload_n 1, 1) := by decide +kernel
theorem d_D_picture_1 : decode c_yD_picture 1 = .ok (.invokestatic 90, 3) := by decide +kernel
theorem d_D_picture_4 : decode c_yD_picture 4 = .ok (.ifCond .eq 21, 3) := by decide +kernel
theorem d_D_picture_7 : decode c_yD_picture 7 = .ok (.iload_n 2, 1) := by decide +kernel
theorem d_D_picture_8 : decode c_yD_picture 8 = .ok (.invokestatic 90, 3) := by decide +kernel
theorem d_D_picture_11 : decode c_yD_picture 11 = .ok (.ifCond .eq 14, 3) := by decide +kernel
theorem d_D_picture_14 : decode c_yD_picture 14 = .ok (.iload_n 3, 1) := by decide +kernel
theorem d_D_picture_15 : decode c_yD_picture 15 = .ok (.invokestatic 158, 3) := by decide +kernel
theorem d_D_picture_18 : decode c_yD_picture 18 = .ok (.ifCond .eq 7, 3) := by decide +kernel
theorem d_D_picture_21 : decode c_yD_picture 21 = .ok (.iconst 1, 1) := by decide +kernel
theorem d_D_picture_22 : decode c_yD_picture 22 = .ok (.goto 4, 3) := by decide +kernel
theorem d_D_picture_25 : decode c_yD_picture 25 = .ok (.iconst 0, 1) := by decide +kernel
theorem d_D_picture_26 : decode c_yD_picture 26 = .ok (.invokestatic 43, 3) := by decide +kernel
theorem d_D_picture_29 : decode c_yD_picture 29 = .ok (.iload_n 3, 1) := by decide +kernel
theorem d_D_picture_30 : decode c_yD_picture 30 = .ok (.bipush 7, 2) := by decide +kernel
theorem d_D_picture_32 : decode c_yD_picture 32 = .ok (.iadd, 1) := by decide +kernel
theorem d_D_picture_33 : decode c_yD_picture 33 = .ok (.bipush 8, 2) := by decide +kernel
theorem d_D_picture_35 : decode c_yD_picture 35 = .ok (.idiv, 1) := by decide +kernel
theorem d_D_picture_36 : decode c_yD_picture 36 = .ok (.istore 4, 2) := by decide +kernel
theorem d_D_picture_38 : decode c_yD_picture 38 = .ok (.aload_n 0, 1) := by decide +kernel
theorem d_D_picture_39 : decode c_yD_picture 39 = .ok (.getfield 28, 3) := by decide +kernel
theorem d_D_picture_42 : decode c_yD_picture 42 = .ok (.getfield 59, 3) := by decide +kernel
theorem d_D_picture_45 : decode c_yD_picture 45 = .ok (.iload 4, 2) := by decide +kernel
theorem d_D_picture_47 : decode c_yD_picture 47 = .ok (.irem, 1) := by decide +kernel
theorem d_D_picture_48 : decode c_yD_picture 48 = .ok (.ifCond .eq 13, 3) := by decide +kernel
theorem d_D_picture_51 : decode c_yD_picture 51 = .ok (.new 164, 3) := by decide +kernel
theorem d_D_picture_54 : decode c_yD_picture 54 = .ok (.dup, 1) := by decide +kernel
theorem d_D_picture_55 : decode c_yD_picture 55 = .ok (.ldc 172, 2) := by decide +kernel
theorem d_D_picture_57 : decode c_yD_picture 57 = .ok (.invokespecial 168, 3) := by decide +kernel
theorem d_D_picture_60 : decode c_yD_picture 60 = .ok (.athrow, 1) := by decide +kernel
theorem d_D_picture_61 : decode c_yD_picture 61 = .ok (.aload_n 0, 1) := by decide +kernel
theorem d_D_picture_62 : decode c_yD_picture 62 = .ok (.getfield 28, 3) := by decide +kernel
theorem d_D_picture_65 : decode c_yD_picture 65 = .ok (.getfield 59, 3) := by decide +kernel
theorem d_D_picture_68 : decode c_yD_picture 68 = .ok (.iload 4, 2) := by decide +kernel
theorem d_D_picture_70 : decode c_yD_picture 70 = .ok (.idiv, 1) := by decide +kernel
theorem d_D_picture_71 : decode c_yD_picture 71 = .ok (.istore 5, 2) := by decide +kernel
theorem d_D_picture_73 : decode c_yD_picture 73 = .ok (.iconst 0, 1) := by decide +kernel
theorem d_D_picture_74 : decode c_yD_picture 74 = .ok (.istore 6, 2) := by decide +kernel
theorem d_D_picture_76 : decode c_yD_picture 76 = .ok (.iconst 0, 1) := by decide +kernel
theorem d_D_picture_77 : decode c_yD_picture 77 = .ok (.istore 7, 2) := by decide +kernel
theorem d_D_picture_79 : decode c_yD_picture 79 = .ok (.iload 7, 2) := by decide +kernel
theorem d_D_picture_81 : decode c_yD_picture 81 = .ok (.iload 5, 2) := by decide +kernel
theorem d_D_picture_83 : decode c_yD_picture 83 = .ok (.if_icmp .ge 73, 3) := by decide +kernel
theorem d_D_picture_86 : decode c_yD_picture 86 = .ok (.iconst 0, 1) := by decide +kernel
theorem d_D_picture_87 : decode c_yD_picture 87 = .ok (.istore 8, 2) := by decide +kernel
theorem d_D_picture_89 : decode c_yD_picture 89 = .ok (.iload 8, 2) := by decide +kernel
theorem d_D_picture_91 : decode c_yD_picture 91 = .ok (.iload_n 3, 1) := by decide +kernel
theorem d_D_picture_92 : decode c_yD_picture 92 = .ok (.if_icmp .ge 58, 3) := by decide +kernel
theorem d_D_picture_95 : decode c_yD_picture 95 = .ok (.aload_n 0, 1) := by decide +kernel
theorem d_D_picture_96 : decode c_yD_picture 96 = .ok (.getfield 28, 3) := by decide +kernel
theorem d_D_picture_99 : decode c_yD_picture 99 = .ok (.bipush 8, 2) := by decide +kernel
theorem d_D_picture_101 : decode c_yD_picture 101 = .ok (.iload 4, 2) := by decide +kernel
theorem d_D_picture_103 : decode c_yD_picture 103 = .ok (.imul, 1) := by decide +kernel
theorem d_D_picture_104 : decode c_yD_picture 104 = .ok (.iload 7, 2) := by decide +kernel
theorem d_D_picture_106 : decode c_yD_picture 106 = .ok (.imul, 1) := by decide +kernel
theorem d_D_picture_107 : decode c_yD_picture 107 = .ok (.iload 8, 2) := by decide +kernel
theorem d_D_picture_109 : decode c_yD_picture 109 = .ok (.iadd, 1) := by decide +kernel
theorem d_D_picture_110 : decode c_yD_picture 110 = .ok (.invokevirtual 169, 3) := by decide +kernel
theorem d_D_picture_113 : decode c_yD_picture 113 = .ok (.ifCond .eq 31, 3) := by decide +kernel
theorem d_D_picture_116 : decode c_yD_picture 116 = .ok (.iload 6, 2) := by decide +kernel
theorem d_D_picture_118 : decode c_yD_picture 118 = .ok (.aload_n 0, 1) := by decide +kernel
theorem d_D_picture_119 : decode c_yD_picture 119 = .ok (.getfield 10, 3) := by decide +kernel
theorem d_D_picture_122 : decode c_yD_picture 122 = .ok (.iload_n 1, 1) := by decide +kernel
theorem d_D_picture_123 : decode c_yD_picture 123 = .ok (.iload 8, 2) := by decide +kernel
theorem d_D_picture_125 : decode c_yD_picture 125 = .ok (.iadd, 1) := by decide +kernel
theorem d_D_picture_126 : decode c_yD_picture 126 = .ok (.iload_n 2, 1) := by decide +kernel
theorem d_D_picture_127 : decode c_yD_picture 127 = .ok (.iload 7, 2) := by decide +kernel
theorem d_D_picture_129 : decode c_yD_picture 129 = .ok (.iadd, 1) := by decide +kernel
theorem d_D_picture_130 : decode c_yD_picture 130 = .ok (.iload_n 1, 1) := by decide +kernel
theorem d_D_picture_131 : decode c_yD_picture 131 = .ok (.iload 8, 2) := by decide +kernel
theorem d_D_picture_133 : decode c_yD_picture 133 = .ok (.iadd, 1) := by decide +kernel
theorem d_D_picture_134 : decode c_yD_picture 134 = .ok (.iload_n 2, 1) := by decide +kernel
theorem d_D_picture_135 : decode c_yD_picture 135 = .ok (.iload 7, 2) := by decide +kernel
theorem d_D_picture_137 : decode c_yD_picture 137 = .ok (.iadd, 1) := by decide +kernel
theorem d_D_picture_138 : decode c_yD_picture 138 = .ok (.invokevirtual 86, 3) := by decide +kernel
theorem d_D_picture_141 : decode c_yD_picture 141 = .ok (.iadd, 1) := by decide +kernel
theorem d_D_picture_142 : decode c_yD_picture 142 = .ok (.istore 6, 2) := by decide +kernel
theorem d_D_picture_144 : decode c_yD_picture 144 = .ok (.iinc 8 1, 3) := by decide +kernel
theorem d_D_picture_147 : decode c_yD_picture 147 = .ok (.goto (-58), 3) := by decide +kernel
theorem d_D_picture_150 : decode c_yD_picture 150 = .ok (.iinc 7 1, 3) := by decide +kernel
theorem d_D_picture_153 : decode c_yD_picture 153 = .ok (.goto (-74), 3) := by decide +kernel
theorem d_D_picture_156 : decode c_yD_picture 156 = .ok (.iload 6, 2) := by decide +kernel
theorem d_D_picture_158 : decode c_yD_picture 158 = .ok (.ireturn, 1) := by decide +kernel
set_option maxHeartbeats 4000000 in
set_option maxRecDepth 100000 in
theorem c_DotSheet_picture (l : Launch) (hnt : l.stackTraces = false) (dC : Nat → ClassId) (dI : Nat → Nat → Nat) (sa : Nat → Nat) (hx_ hst hd hfa hp hw hs hk : Nat) (cL : ClassId) (w h mn : Int) (G : Int → Int64) (pic : Int → Int → Bool) (hy : Nat) (cB : ClassId) (n : Int) (Y : Int → Int32) (dr : Int → Int) (x y bw : Int) (sz : Nat) (w1 : 1 ≤ w) (w2 : w ≤ 1024) (h1 : 1 ≤ h) (h2 : h ≤ 1024) (mn1 : 0 ≤ mn) (mn2 : mn ≤ 2) (hR : Rep G pic) (n1 : 0 ≤ n) (n2 : n ≤ 4096) (hY : RepD Y n dr) (x1 : -2147483648 ≤ x) (y1 : -2147483648 ≤ y) (bw1 : -2147483648 ≤ bw) (x2 : x ≤ 2147483647) (y2 : y ≤ 2147483647) (bw2 : bw ≤ 2147483647) : vx_Met l y_D_picture w_D_picture ({ frames := 7, cells := 2, slots := 12, locals := 120 }) (va_Pc [.ref hx_, .int (iZ x), .int (iZ y), .int (iZ bw)] (zPx (dC, dI) vwCl [(hx_, .inr (4, [.ref hp, .ref hst, .ref hd, .ref hfa])), (hp, .inr (2, [.int (iZ w), .int (iZ h), .int (iZ mn), .ref hw, .ref hs, .ref hk])), (hw, .inl (cL, 16384, .inr (.inl (aL G)))), (hd, .inr (0, [.int (iZ n), .ref hy])), (hy, .inl (cB, 4096, .inl (aI Y)))] [(cL, .long), (cB, .byte)] sz sa)) (va_Qi (fun (r : Int32) (u : Int → Int64) => r = iZ (cnt w h (picB dr x y bw ((bw + 7) / 8) (n / ((bw + 7) / 8)))) ∧ (-4096 ≤ x ∧ x ≤ 4096 ∧ -4096 ≤ y ∧ y ≤ 4096 ∧ 1 ≤ bw ∧ bw ≤ 2048 ∧ n % ((bw + 7) / 8) = 0) ∧ Rep u (drw mn (fun px py => onB w h px py && picB dr x y bw ((bw + 7) / 8) (n / ((bw + 7) / 8)) px py) pic)) (fun u => zB (dC, dI) vwCl [(cL, .long), (cB, .byte)] (va_A [(hx_, .inr (4, [.ref hp, .ref hst, .ref hd, .ref hfa])), (hp, .inr (2, [.int (iZ w), .int (iZ h), .int (iZ mn), .ref hw, .ref hs, .ref hk])), (hw, .inl (cL, 16384, .inr (.inl (aL G)))), (hd, .inr (0, [.int (iZ n), .ref hy])), (hy, .inl (cB, 4096, .inl (aI Y)))] sz) [(hx_, .inr (4, [.ref hp, .ref hst, .ref hd, .ref hfa])), (hp, .inr (2, [.int (iZ w), .int (iZ h), .int (iZ mn), .ref hw, .ref hs, .ref hk])), (hw, .inl (cL, 16384, .inr (.inl (aL u)))), (hd, .inr (0, [.int (iZ n), .ref hy])), (hy, .inl (cB, 4096, .inl (aI Y)))]) (va_A [(hx_, .inr (4, [.ref hp, .ref hst, .ref hd, .ref hfa])), (hp, .inr (2, [.int (iZ w), .int (iZ h), .int (iZ mn), .ref hw, .ref hs, .ref hk])), (hw, .inl (cL, 16384, .inr (.inl (aL G)))), (hd, .inr (0, [.int (iZ n), .ref hy])), (hy, .inl (cB, 4096, .inl (aI Y)))] sz)) (zX (fun E => (E = "java/lang/IllegalArgumentException" ∧ ¬ (-4096 ≤ x ∧ x ≤ 4096 ∧ -4096 ≤ y ∧ y ≤ 4096 ∧ 1 ≤ bw ∧ bw ≤ 2048)) ∨ (E = "java/lang/IllegalStateException" ∧ (-4096 ≤ x ∧ x ≤ 4096 ∧ -4096 ≤ y ∧ y ≤ 4096 ∧ 1 ≤ bw ∧ bw ≤ 2048) ∧ n % ((bw + 7) / 8) ≠ 0)) (dC, dI) vwCl [(cL, .long), (cB, .byte)] (va_A [(hx_, .inr (4, [.ref hp, .ref hst, .ref hd, .ref hfa])), (hp, .inr (2, [.int (iZ w), .int (iZ h), .int (iZ mn), .ref hw, .ref hs, .ref hk])), (hw, .inl (cL, 16384, .inr (.inl (aL G)))), (hd, .inr (0, [.int (iZ n), .ref hy])), (hy, .inl (cB, 4096, .inl (aI Y)))] sz) [(hx_, .inr (4, [.ref hp, .ref hst, .ref hd, .ref hfa])), (hp, .inr (2, [.int (iZ w), .int (iZ h), .int (iZ mn), .ref hw, .ref hs, .ref hk])), (hw, .inl (cL, 16384, .inr (.inl (aL G)))), (hd, .inr (0, [.int (iZ n), .ref hy])), (hy, .inl (cB, 4096, .inl (aI Y)))]) 2 12 (va_A [(hx_, .inr (4, [.ref hp, .ref hst, .ref hd, .ref hfa])), (hp, .inr (2, [.int (iZ w), .int (iZ h), .int (iZ mn), .ref hw, .ref hs, .ref hk])), (hw, .inl (cL, 16384, .inr (.inl (aL G)))), (hd, .inr (0, [.int (iZ n), .ref hy])), (hy, .inl (cB, 4096, .inl (aI Y)))] sz) := by
  refine vx_ofW (cc := c_yD_picture) (maxL := 9) (ret := (some .int)) (by decide) rfl ?_
  intro p e s m args below meth c s₁ B hml noEx hv
  obtain ⟨rfl, hsz, hP, hK, hD0, hXK⟩ := hv
  have hx := B.exec
  have hb := B.bytes
  have hr := B.returns
  have hts0 := atoms_spec (ws := w_D_picture) B.pre
  have hts : ∀ w ∈ gT, w.before _ s = true := fun w h => hts0 w (List.mem_cons_of_mem _ h)
  have hown : s.vm.findClass R_D = some m.cls := findClass_of_methodNamed B.named
  have hlocks := B.notSynchronized
  subst hsz
  have hD := hD0.self (sz := s.heap.size)
  generalize hAe : va_A [(hx_, .inr (4, [.ref hp, .ref hst, .ref hd, .ref hfa])), (hp, .inr (2, [.int (iZ w), .int (iZ h), .int (iZ mn), .ref hw, .ref hs, .ref hk])), (hw, .inl (cL, 16384, .inr (.inl (aL G)))), (hd, .inr (0, [.int (iZ n), .ref hy])), (hy, .inl (cB, 4096, .inl (aI Y)))] s.heap.size = A at hD hXK ⊢
  have hA : ∀ q : Nat, s.heap.size ≤ q → A q := fun q h => by rw [← hAe]; exact Or.inr h
  obtain ⟨H, hH⟩ : ∃ H, s.heap = H := ⟨_, rfl⟩
  have hS : va_S A s.heap H [] := by rw [← hH]; exact va_S.rf
  rw [hH] at hP
  rw [hH]
  have hl := lv_entry ([.ref hx_, .int (iZ x), .int (iZ y), .int (iZ bw)]) (n := 9) (Nat.le_of_ble_eq_true rfl)
  rw [lg_entry_eq]
  generalize (lg_sl ([.ref hx_, .int (iZ x), .int (iZ y), .int (iZ bw)]) ++ List.replicate (9 - (lg_sl ([.ref hx_, .int (iZ x), .int (iZ y), .int (iZ bw)])).length) Slot.unset).toArray = ls at hl ⊢
  have hl : lv_has ls 9 [(0, .ref hx_), (1, .int (iZ x)), (2, .int (iZ y)), (3, .int (iZ bw))] := hl
  refine lv_iload_n hx hb d_D_picture_0 rfl (lv_at hl 1 rfl) ?_
  refine vp_callSi (va_runS (As := [.int (iZ x)]) (rest := []) ⟨hx, hb, hml, hown, hts⟩ (c_DotSheet_isPlace l dC dI x (by first | omega | assumption) (by first | omega | assumption)) (va_cwS 1 hts (gS t_259 t_260 t_1 t_261) rfl rfl rfl (by decide +kernel) ⟨Nat.le_of_ble_eq_true rfl, Nat.le_of_ble_eq_true rfl⟩) ⟨zPr_blind, zPr_pre hP hK [] [] rfl rfl⟩ rfl rfl hl.1 rfl (lv_room (Nat.le_of_ble_eq_true rfl)) d_D_picture_1 ⟨Nat.le_of_ble_eq_true rfl, Nat.le_of_ble_eq_true rfl⟩).run (fun r_1 q_1 => ?_)
  obtain rfl := q_1
  refine zb_if_eq (tgt := 25) hx hb d_D_picture_4 (by decide) (fun c_4 => ?_) (fun c_4 => ?_)
  · have c_4 := of_decide_eq_false c_4
    refine lv_iconst (v := iZ (0)) hx hb d_D_picture_25 rfl ?_
    refine zx_v (w1 := fun (u_26 : Unit) => []) (wr := [(hx_, .inr (4, [.ref hp, .ref hst, .ref hd, .ref hfa])), (hp, .inr (2, [.int (iZ w), .int (iZ h), .int (iZ mn), .ref hw, .ref hs, .ref hk])), (hw, .inl (cL, 16384, .inr (.inl (aL G)))), (hd, .inr (0, [.int (iZ n), .ref hy])), (hy, .inl (cB, 4096, .inl (aI Y)))]) (vx_runS (As := [.int (bI false)]) (rest := []) ⟨hx, hb, hml, hown, hts⟩ (c_DotSheet_demand l hnt dC dI sa false H.size ) (va_cwS 1 hts (gS t_154 t_155 t_1 t_156) rfl rfl rfl (by decide +kernel) ⟨Nat.le_of_ble_eq_true rfl, Nat.le_of_ble_eq_true rfl⟩) ⟨zPx_blind, zPx_pre hP hD hK hXK hS hA [] [] rfl rfl rfl rfl⟩ rfl rfl hl.1 rfl (lv_room (Nat.le_of_ble_eq_true rfl)) d_D_picture_26 ⟨Nat.le_of_ble_eq_true rfl, Nat.le_of_ble_eq_true rfl⟩) hP hD hS hA [] [0, 1, 2, 3, 4] rfl rfl rfl (by decide) (fun E_ ce_ q9_ H locs x_26 hP hD hS hce hcv hcl => ?_) (fun u_26 H locs q_26 hP hD hS => ?_)
    · have hP : va_P (dC, dI) vwCl [(hx_, .inr (4, [.ref hp, .ref hst, .ref hd, .ref hfa])), (hp, .inr (2, [.int (iZ w), .int (iZ h), .int (iZ mn), .ref hw, .ref hs, .ref hk])), (hw, .inl (cL, 16384, .inr (.inl (aL G)))), (hd, .inr (0, [.int (iZ n), .ref hy])), (hy, .inl (cB, 4096, .inl (aI Y)))] H := hP
      have hD : va_D A [(hx_, .inr (4, [.ref hp, .ref hst, .ref hd, .ref hfa])), (hp, .inr (2, [.int (iZ w), .int (iZ h), .int (iZ mn), .ref hw, .ref hs, .ref hk])), (hw, .inl (cL, 16384, .inr (.inl (aL G)))), (hd, .inr (0, [.int (iZ n), .ref hy])), (hy, .inl (cB, 4096, .inl (aI Y)))] := hD
      exact vx_out (fun x9 h9 => (noEx x9 h9).elim) hlocks hce hcv hcl (fun t ht ha => ⟨(), trivial, ⟨Or.inl ⟨x_26.1, by omega⟩, by rw [ht]; exact hP, va_K.moved ha hK, hD⟩, hS.F ht⟩) hS.2.2 (Nat.le_of_ble_eq_true rfl) (Nat.le_of_ble_eq_true rfl)
    exact absurd q_26 (by decide)
  · have c_4 := of_decide_eq_true c_4
    refine lv_iload_n hx hb d_D_picture_7 rfl (lv_at hl 2 rfl) ?_
    refine vp_callSi (va_runS (As := [.int (iZ y)]) (rest := []) ⟨hx, hb, hml, hown, hts⟩ (c_DotSheet_isPlace l dC dI y (by first | omega | assumption) (by first | omega | assumption)) (va_cwS 1 hts (gS t_259 t_260 t_1 t_261) rfl rfl rfl (by decide +kernel) ⟨Nat.le_of_ble_eq_true rfl, Nat.le_of_ble_eq_true rfl⟩) ⟨zPr_blind, zPr_pre hP hK [] [] rfl rfl⟩ rfl rfl hl.1 rfl (lv_room (Nat.le_of_ble_eq_true rfl)) d_D_picture_8 ⟨Nat.le_of_ble_eq_true rfl, Nat.le_of_ble_eq_true rfl⟩).run (fun r_8 q_8 => ?_)
    obtain rfl := q_8
    refine zb_if_eq (tgt := 25) hx hb d_D_picture_11 (by decide) (fun c_11 => ?_) (fun c_11 => ?_)
    · have c_11 := of_decide_eq_false c_11
      refine lv_iconst (v := iZ (0)) hx hb d_D_picture_25 rfl ?_
      refine zx_v (w1 := fun (u_26 : Unit) => []) (wr := [(hx_, .inr (4, [.ref hp, .ref hst, .ref hd, .ref hfa])), (hp, .inr (2, [.int (iZ w), .int (iZ h), .int (iZ mn), .ref hw, .ref hs, .ref hk])), (hw, .inl (cL, 16384, .inr (.inl (aL G)))), (hd, .inr (0, [.int (iZ n), .ref hy])), (hy, .inl (cB, 4096, .inl (aI Y)))]) (vx_runS (As := [.int (bI false)]) (rest := []) ⟨hx, hb, hml, hown, hts⟩ (c_DotSheet_demand l hnt dC dI sa false H.size ) (va_cwS 1 hts (gS t_154 t_155 t_1 t_156) rfl rfl rfl (by decide +kernel) ⟨Nat.le_of_ble_eq_true rfl, Nat.le_of_ble_eq_true rfl⟩) ⟨zPx_blind, zPx_pre hP hD hK hXK hS hA [] [] rfl rfl rfl rfl⟩ rfl rfl hl.1 rfl (lv_room (Nat.le_of_ble_eq_true rfl)) d_D_picture_26 ⟨Nat.le_of_ble_eq_true rfl, Nat.le_of_ble_eq_true rfl⟩) hP hD hS hA [] [0, 1, 2, 3, 4] rfl rfl rfl (by decide) (fun E_ ce_ q9_ H locs x_26 hP hD hS hce hcv hcl => ?_) (fun u_26 H locs q_26 hP hD hS => ?_)
      · have hP : va_P (dC, dI) vwCl [(hx_, .inr (4, [.ref hp, .ref hst, .ref hd, .ref hfa])), (hp, .inr (2, [.int (iZ w), .int (iZ h), .int (iZ mn), .ref hw, .ref hs, .ref hk])), (hw, .inl (cL, 16384, .inr (.inl (aL G)))), (hd, .inr (0, [.int (iZ n), .ref hy])), (hy, .inl (cB, 4096, .inl (aI Y)))] H := hP
        have hD : va_D A [(hx_, .inr (4, [.ref hp, .ref hst, .ref hd, .ref hfa])), (hp, .inr (2, [.int (iZ w), .int (iZ h), .int (iZ mn), .ref hw, .ref hs, .ref hk])), (hw, .inl (cL, 16384, .inr (.inl (aL G)))), (hd, .inr (0, [.int (iZ n), .ref hy])), (hy, .inl (cB, 4096, .inl (aI Y)))] := hD
        exact vx_out (fun x9 h9 => (noEx x9 h9).elim) hlocks hce hcv hcl (fun t ht ha => ⟨(), trivial, ⟨Or.inl ⟨x_26.1, by omega⟩, by rw [ht]; exact hP, va_K.moved ha hK, hD⟩, hS.F ht⟩) hS.2.2 (Nat.le_of_ble_eq_true rfl) (Nat.le_of_ble_eq_true rfl)
      exact absurd q_26 (by decide)
    · have c_11 := of_decide_eq_true c_11
      refine lv_iload_n hx hb d_D_picture_14 rfl (lv_at hl 3 rfl) ?_
      refine vp_callSi (va_runS (As := [.int (iZ bw)]) (rest := []) ⟨hx, hb, hml, hown, hts⟩ (c_DotSheet_isSize l dC dI bw (by first | omega | assumption) (by first | omega | assumption)) (va_cwS 1 hts (gS t_262 t_263 t_1 t_264) rfl rfl rfl (by decide +kernel) ⟨Nat.le_of_ble_eq_true rfl, Nat.le_of_ble_eq_true rfl⟩) ⟨zPr_blind, zPr_pre hP hK [] [] rfl rfl⟩ rfl rfl hl.1 rfl (lv_room (Nat.le_of_ble_eq_true rfl)) d_D_picture_15 ⟨Nat.le_of_ble_eq_true rfl, Nat.le_of_ble_eq_true rfl⟩).run (fun r_15 q_15 => ?_)
      obtain rfl := q_15
      refine zb_if_eq (tgt := 25) hx hb d_D_picture_18 (by decide) (fun c_18 => ?_) (fun c_18 => ?_)
      · have c_18 := of_decide_eq_false c_18
        refine lv_iconst (v := iZ (0)) hx hb d_D_picture_25 rfl ?_
        refine zx_v (w1 := fun (u_26 : Unit) => []) (wr := [(hx_, .inr (4, [.ref hp, .ref hst, .ref hd, .ref hfa])), (hp, .inr (2, [.int (iZ w), .int (iZ h), .int (iZ mn), .ref hw, .ref hs, .ref hk])), (hw, .inl (cL, 16384, .inr (.inl (aL G)))), (hd, .inr (0, [.int (iZ n), .ref hy])), (hy, .inl (cB, 4096, .inl (aI Y)))]) (vx_runS (As := [.int (bI false)]) (rest := []) ⟨hx, hb, hml, hown, hts⟩ (c_DotSheet_demand l hnt dC dI sa false H.size ) (va_cwS 1 hts (gS t_154 t_155 t_1 t_156) rfl rfl rfl (by decide +kernel) ⟨Nat.le_of_ble_eq_true rfl, Nat.le_of_ble_eq_true rfl⟩) ⟨zPx_blind, zPx_pre hP hD hK hXK hS hA [] [] rfl rfl rfl rfl⟩ rfl rfl hl.1 rfl (lv_room (Nat.le_of_ble_eq_true rfl)) d_D_picture_26 ⟨Nat.le_of_ble_eq_true rfl, Nat.le_of_ble_eq_true rfl⟩) hP hD hS hA [] [0, 1, 2, 3, 4] rfl rfl rfl (by decide) (fun E_ ce_ q9_ H locs x_26 hP hD hS hce hcv hcl => ?_) (fun u_26 H locs q_26 hP hD hS => ?_)
        · have hP : va_P (dC, dI) vwCl [(hx_, .inr (4, [.ref hp, .ref hst, .ref hd, .ref hfa])), (hp, .inr (2, [.int (iZ w), .int (iZ h), .int (iZ mn), .ref hw, .ref hs, .ref hk])), (hw, .inl (cL, 16384, .inr (.inl (aL G)))), (hd, .inr (0, [.int (iZ n), .ref hy])), (hy, .inl (cB, 4096, .inl (aI Y)))] H := hP
          have hD : va_D A [(hx_, .inr (4, [.ref hp, .ref hst, .ref hd, .ref hfa])), (hp, .inr (2, [.int (iZ w), .int (iZ h), .int (iZ mn), .ref hw, .ref hs, .ref hk])), (hw, .inl (cL, 16384, .inr (.inl (aL G)))), (hd, .inr (0, [.int (iZ n), .ref hy])), (hy, .inl (cB, 4096, .inl (aI Y)))] := hD
          exact vx_out (fun x9 h9 => (noEx x9 h9).elim) hlocks hce hcv hcl (fun t ht ha => ⟨(), trivial, ⟨Or.inl ⟨x_26.1, by omega⟩, by rw [ht]; exact hP, va_K.moved ha hK, hD⟩, hS.F ht⟩) hS.2.2 (Nat.le_of_ble_eq_true rfl) (Nat.le_of_ble_eq_true rfl)
        exact absurd q_26 (by decide)
      · have c_18 := of_decide_eq_true c_18
        refine lv_iconst (v := iZ (1)) hx hb d_D_picture_21 rfl ?_
        refine lv_goto (tgt := 26) hx hb d_D_picture_22 (by decide) ?_
        refine zx_v (w1 := fun (u_26 : Unit) => []) (wr := [(hx_, .inr (4, [.ref hp, .ref hst, .ref hd, .ref hfa])), (hp, .inr (2, [.int (iZ w), .int (iZ h), .int (iZ mn), .ref hw, .ref hs, .ref hk])), (hw, .inl (cL, 16384, .inr (.inl (aL G)))), (hd, .inr (0, [.int (iZ n), .ref hy])), (hy, .inl (cB, 4096, .inl (aI Y)))]) (vx_runS (As := [.int (bI true)]) (rest := []) ⟨hx, hb, hml, hown, hts⟩ (c_DotSheet_demand l hnt dC dI sa true H.size ) (va_cwS 1 hts (gS t_154 t_155 t_1 t_156) rfl rfl rfl (by decide +kernel) ⟨Nat.le_of_ble_eq_true rfl, Nat.le_of_ble_eq_true rfl⟩) ⟨zPx_blind, zPx_pre hP hD hK hXK hS hA [] [] rfl rfl rfl rfl⟩ rfl rfl hl.1 rfl (lv_room (Nat.le_of_ble_eq_true rfl)) d_D_picture_26 ⟨Nat.le_of_ble_eq_true rfl, Nat.le_of_ble_eq_true rfl⟩) hP hD hS hA [] [0, 1, 2, 3, 4] rfl rfl rfl (by decide) (fun E_ ce_ q9_ H locs x_26 hP hD hS hce hcv hcl => ?_) (fun u_26 H locs q_26 hP hD hS => ?_)
        · exact absurd x_26.2 (by decide)
        have hP : va_P (dC, dI) vwCl [(hx_, .inr (4, [.ref hp, .ref hst, .ref hd, .ref hfa])), (hp, .inr (2, [.int (iZ w), .int (iZ h), .int (iZ mn), .ref hw, .ref hs, .ref hk])), (hw, .inl (cL, 16384, .inr (.inl (aL G)))), (hd, .inr (0, [.int (iZ n), .ref hy])), (hy, .inl (cB, 4096, .inl (aI Y)))] H := hP
        have hD : va_D A [(hx_, .inr (4, [.ref hp, .ref hst, .ref hd, .ref hfa])), (hp, .inr (2, [.int (iZ w), .int (iZ h), .int (iZ mn), .ref hw, .ref hs, .ref hk])), (hw, .inl (cL, 16384, .inr (.inl (aL G)))), (hd, .inr (0, [.int (iZ n), .ref hy])), (hy, .inl (cB, 4096, .inl (aI Y)))] := hD
        refine lv_iload_n hx hb d_D_picture_29 rfl (lv_at hl 3 rfl) ?_
        refine lv_bipush (v := iZ (7)) hx hb d_D_picture_30 (by decide) ?_
        refine zi_add hx hb d_D_picture_32 ?_
        refine lv_bipush (v := iZ (8)) hx hb d_D_picture_33 (by decide) ?_
        refine zi_div hx hb d_D_picture_35 (by omega) (by omega) (by omega) (by omega) ?_
        refine zn_z (fun rb e_rb => ?_)
        refine lv_istore (lv' := [(4, .int (iZ rb)), (0, .ref hx_), (1, .int (iZ x)), (2, .int (iZ y)), (3, .int (iZ bw))]) hx hb d_D_picture_36 hl (by decide) rfl (fun ls hl => ?_)
        refine lv_aload_n hx hb d_D_picture_38 rfl (lv_at hl 1 rfl) ?_
        refine va_get (D := (dC, dI)) (ci := 4) (v := .ref hd) (C := R_D) (T := T_D) (N := 4) hx hb hts wi_D hown hK hP 0 rfl rfl 2 (by decide) (hts _ t_128) (fun _ h9 => h9) rfl d_D_picture_39 ?_
        refine va_get (D := (dC, dI)) (ci := 0) (v := .int (iZ n)) (C := R_Dr) (T := T_Dr) (N := 2) hx hb hts wi_Dr hown hK hP 3 rfl rfl 0 (by decide) (hts _ t_94) (fun _ h9 => h9) rfl d_D_picture_42 ?_
        refine lv_iload hx hb d_D_picture_45 (lv_at hl 0 rfl) ?_
        refine zi_rem hx hb d_D_picture_47 (by omega) (by omega) (by omega) (by omega) ?_
        have m9 : 0 ≤ n % rb ∧ n % rb < rb := ⟨Int.emod_nonneg _ (by omega), Int.emod_lt_of_pos _ (by omega)⟩
        refine zi_if_eq (tgt := 61) hx hb d_D_picture_48 (by decide) (by omega) (by omega) (fun c_48 => ?_) (fun c_48 => ?_)
        · refine lv_aload_n hx hb d_D_picture_61 rfl (lv_at hl 1 rfl) ?_
          refine va_get (D := (dC, dI)) (ci := 4) (v := .ref hd) (C := R_D) (T := T_D) (N := 4) hx hb hts wi_D hown hK hP 0 rfl rfl 2 (by decide) (hts _ t_128) (fun _ h9 => h9) rfl d_D_picture_62 ?_
          refine va_get (D := (dC, dI)) (ci := 0) (v := .int (iZ n)) (C := R_Dr) (T := T_Dr) (N := 2) hx hb hts wi_Dr hown hK hP 3 rfl rfl 0 (by decide) (hts _ t_94) (fun _ h9 => h9) rfl d_D_picture_65 ?_
          refine lv_iload hx hb d_D_picture_68 (lv_at hl 0 rfl) ?_
          refine zi_div hx hb d_D_picture_70 (by omega) (by omega) (by omega) (by omega) ?_
          refine zn_z (fun rows e_rows => ?_)
          refine lv_istore (lv' := [(5, .int (iZ rows)), (4, .int (iZ rb)), (0, .ref hx_), (1, .int (iZ x)), (2, .int (iZ y)), (3, .int (iZ bw))]) hx hb d_D_picture_71 hl (by decide) rfl (fun ls hl => ?_)
          have hn9 : n = rows * rb := by rw [e_rows]; have z9 := Int.mul_ediv_add_emod n rb; rw [Int.mul_comm] at z9; omega
          have r9 : 0 ≤ rows ∧ rows ≤ 4096 := by rw [e_rows]; exact ⟨Int.ediv_nonneg (by omega) (by omega), Int.le_trans (Int.ediv_le_self _ (by omega)) (by omega)⟩
          refine lv_iconst (v := iZ (0)) hx hb d_D_picture_73 rfl ?_
          refine lv_istore (lv' := [(6, .int (iZ 0)), (5, .int (iZ rows)), (4, .int (iZ rb)), (0, .ref hx_), (1, .int (iZ x)), (2, .int (iZ y)), (3, .int (iZ bw))]) hx hb d_D_picture_74 hl (by decide) rfl (fun ls hl => ?_)
          refine lv_iconst (v := iZ (0)) hx hb d_D_picture_76 rfl ?_
          refine lv_istore (lv' := [(7, .int (iZ 0)), (6, .int (iZ 0)), (5, .int (iZ rows)), (4, .int (iZ rb)), (0, .ref hx_), (1, .int (iZ x)), (2, .int (iZ y)), (3, .int (iZ bw))]) hx hb d_D_picture_77 hl (by decide) rfl (fun ls hl => ?_)
          have LP_79 : ∀ (n_79 : Nat) (r_ : Int) (dn : Int) (K : Int → Int64), (0 ≤ r_) → (r_ ≤ rows) → (acI w h mn (picP dr x y bw rb rows r_ 0) pic K dn) → (rows - r_).toNat < n_79 → ∀ (H : Heap) (locs : List Loc), va_P (dC, dI) vwCl [(hx_, .inr (4, [.ref hp, .ref hst, .ref hd, .ref hfa])), (hp, .inr (2, [.int (iZ w), .int (iZ h), .int (iZ mn), .ref hw, .ref hs, .ref hk])), (hw, .inl (cL, 16384, .inr (.inl (aL K)))), (hd, .inr (0, [.int (iZ n), .ref hy])), (hy, .inl (cB, 4096, .inl (aI Y)))] H → va_D A [(hx_, .inr (4, [.ref hp, .ref hst, .ref hd, .ref hfa])), (hp, .inr (2, [.int (iZ w), .int (iZ h), .int (iZ mn), .ref hw, .ref hs, .ref hk])), (hw, .inl (cL, 16384, .inr (.inl (aL K)))), (hd, .inr (0, [.int (iZ n), .ref hy])), (hy, .inl (cB, 4096, .inl (aI Y)))] → va_S A s.heap H locs → ∀ (ls : Array Slot), lv_has ls 9 [(0, .ref hx_), (1, .int (iZ x)), (2, .int (iZ y)), (3, .int (iZ bw)), (4, .int (iZ rb)), (5, .int (iZ rows)), (6, .int (iZ dn)), (7, .int (iZ r_))] → W p l e ({ frames := 7, cells := 2, slots := 12, locals := 120 } : Room) s m ([.ref hx_, .int (iZ x), .int (iZ y), .int (iZ bw)] : List Value).toArray below meth c H locs 1 6 (vx_MQ below (va_Qi (fun (r : Int32) (u : Int → Int64) => r = iZ (cnt w h (picB dr x y bw ((bw + 7) / 8) (n / ((bw + 7) / 8)))) ∧ (-4096 ≤ x ∧ x ≤ 4096 ∧ -4096 ≤ y ∧ y ≤ 4096 ∧ 1 ≤ bw ∧ bw ≤ 2048 ∧ n % ((bw + 7) / 8) = 0) ∧ Rep u (drw mn (fun px py => onB w h px py && picB dr x y bw ((bw + 7) / 8) (n / ((bw + 7) / 8)) px py) pic)) (fun u => zB (dC, dI) vwCl [(cL, .long), (cB, .byte)] A [(hx_, .inr (4, [.ref hp, .ref hst, .ref hd, .ref hfa])), (hp, .inr (2, [.int (iZ w), .int (iZ h), .int (iZ mn), .ref hw, .ref hs, .ref hk])), (hw, .inl (cL, 16384, .inr (.inl (aL u)))), (hd, .inr (0, [.int (iZ n), .ref hy])), (hy, .inl (cB, 4096, .inl (aI Y)))]) A) (zX (fun E => (E = "java/lang/IllegalArgumentException" ∧ ¬ (-4096 ≤ x ∧ x ≤ 4096 ∧ -4096 ≤ y ∧ y ≤ 4096 ∧ 1 ≤ bw ∧ bw ≤ 2048)) ∨ (E = "java/lang/IllegalStateException" ∧ (-4096 ≤ x ∧ x ≤ 4096 ∧ -4096 ≤ y ∧ y ≤ 4096 ∧ 1 ≤ bw ∧ bw ≤ 2048) ∧ n % ((bw + 7) / 8) ≠ 0)) (dC, dI) vwCl [(cL, .long), (cB, .byte)] A [(hx_, .inr (4, [.ref hp, .ref hst, .ref hd, .ref hfa])), (hp, .inr (2, [.int (iZ w), .int (iZ h), .int (iZ mn), .ref hw, .ref hs, .ref hk])), (hw, .inl (cL, 16384, .inr (.inl (aL G)))), (hd, .inr (0, [.int (iZ n), .ref hy])), (hy, .inl (cB, 4096, .inl (aI Y)))]) ([.ref hx_, .int (iZ x), .int (iZ y), .int (iZ bw)] : List Value).toArray s 2 12 A) (F0 m 79 ls []) := by
            intro n_79
            induction n_79 with
            | zero => intro r_ dn K i1 i2 i3 hm; exact absurd hm (by omega)
            | succ n_79 ih_79 =>
              intro r_ dn K i1 i2 i3 hm_79 H locs hP hD hS ls hl
              refine lv_iload hx hb d_D_picture_79 (lv_at hl 7 rfl) ?_
              refine lv_iload hx hb d_D_picture_81 (lv_at hl 5 rfl) ?_
              refine zi_ge (tgt := 156) hx hb d_D_picture_83 (by decide) (by omega) (by omega) (by omega) (by omega) (fun c_83 => ?_) (fun c_83 => ?_)
              · refine lv_iload hx hb d_D_picture_156 (lv_at hl 6 rfl) ?_
                refine vx_ret ?_
                refine W.widen (k := 2) (n := 12) (Nat.le_of_ble_eq_true rfl) (Nat.le_of_ble_eq_true rfl) ?_
                exact W.iret hx hb hr (fun t ht hW => ⟨⟨_, K, rfl, ⟨congrArg iZ (by rw [(ac_ext i3 (fun px py _ => pc_end (by omega) px py)).2, e_rows, e_rb]), by rw [← e_rb]; omega, by have z9 := (ac_ext i3 (fun px py _ => pc_end (by omega) px py)).1; rw [e_rows, e_rb] at z9; exact z9⟩, by rw [ht]; exact hP, va_K.moved hW.alike hK, hD⟩, hS.F ht⟩) hS.2.2 d_D_picture_158
              · refine lv_iconst (v := iZ (0)) hx hb d_D_picture_86 rfl ?_
                refine lv_istore (lv' := [(8, .int (iZ 0)), (0, .ref hx_), (1, .int (iZ x)), (2, .int (iZ y)), (3, .int (iZ bw)), (4, .int (iZ rb)), (5, .int (iZ rows)), (6, .int (iZ dn)), (7, .int (iZ r_))]) hx hb d_D_picture_87 hl (by decide) rfl (fun ls hl => ?_)
                have LP_89 : ∀ (n_89 : Nat) (c_ : Int) (dn2 : Int) (K2 : Int → Int64), (0 ≤ c_) → (c_ ≤ bw) → (acI w h mn (picP dr x y bw rb rows r_ c_) pic K2 dn2) → (bw - c_).toNat < n_89 → ∀ (H : Heap) (locs : List Loc), va_P (dC, dI) vwCl [(hx_, .inr (4, [.ref hp, .ref hst, .ref hd, .ref hfa])), (hp, .inr (2, [.int (iZ w), .int (iZ h), .int (iZ mn), .ref hw, .ref hs, .ref hk])), (hw, .inl (cL, 16384, .inr (.inl (aL K2)))), (hd, .inr (0, [.int (iZ n), .ref hy])), (hy, .inl (cB, 4096, .inl (aI Y)))] H → va_D A [(hx_, .inr (4, [.ref hp, .ref hst, .ref hd, .ref hfa])), (hp, .inr (2, [.int (iZ w), .int (iZ h), .int (iZ mn), .ref hw, .ref hs, .ref hk])), (hw, .inl (cL, 16384, .inr (.inl (aL K2)))), (hd, .inr (0, [.int (iZ n), .ref hy])), (hy, .inl (cB, 4096, .inl (aI Y)))] → va_S A s.heap H locs → ∀ (ls : Array Slot), lv_has ls 9 [(0, .ref hx_), (1, .int (iZ x)), (2, .int (iZ y)), (3, .int (iZ bw)), (4, .int (iZ rb)), (5, .int (iZ rows)), (6, .int (iZ dn2)), (7, .int (iZ r_)), (8, .int (iZ c_))] → W p l e ({ frames := 7, cells := 2, slots := 12, locals := 120 } : Room) s m ([.ref hx_, .int (iZ x), .int (iZ y), .int (iZ bw)] : List Value).toArray below meth c H locs 1 6 (vx_MQ below (va_Qi (fun (r : Int32) (u : Int → Int64) => r = iZ (cnt w h (picB dr x y bw ((bw + 7) / 8) (n / ((bw + 7) / 8)))) ∧ (-4096 ≤ x ∧ x ≤ 4096 ∧ -4096 ≤ y ∧ y ≤ 4096 ∧ 1 ≤ bw ∧ bw ≤ 2048 ∧ n % ((bw + 7) / 8) = 0) ∧ Rep u (drw mn (fun px py => onB w h px py && picB dr x y bw ((bw + 7) / 8) (n / ((bw + 7) / 8)) px py) pic)) (fun u => zB (dC, dI) vwCl [(cL, .long), (cB, .byte)] A [(hx_, .inr (4, [.ref hp, .ref hst, .ref hd, .ref hfa])), (hp, .inr (2, [.int (iZ w), .int (iZ h), .int (iZ mn), .ref hw, .ref hs, .ref hk])), (hw, .inl (cL, 16384, .inr (.inl (aL u)))), (hd, .inr (0, [.int (iZ n), .ref hy])), (hy, .inl (cB, 4096, .inl (aI Y)))]) A) (zX (fun E => (E = "java/lang/IllegalArgumentException" ∧ ¬ (-4096 ≤ x ∧ x ≤ 4096 ∧ -4096 ≤ y ∧ y ≤ 4096 ∧ 1 ≤ bw ∧ bw ≤ 2048)) ∨ (E = "java/lang/IllegalStateException" ∧ (-4096 ≤ x ∧ x ≤ 4096 ∧ -4096 ≤ y ∧ y ≤ 4096 ∧ 1 ≤ bw ∧ bw ≤ 2048) ∧ n % ((bw + 7) / 8) ≠ 0)) (dC, dI) vwCl [(cL, .long), (cB, .byte)] A [(hx_, .inr (4, [.ref hp, .ref hst, .ref hd, .ref hfa])), (hp, .inr (2, [.int (iZ w), .int (iZ h), .int (iZ mn), .ref hw, .ref hs, .ref hk])), (hw, .inl (cL, 16384, .inr (.inl (aL G)))), (hd, .inr (0, [.int (iZ n), .ref hy])), (hy, .inl (cB, 4096, .inl (aI Y)))]) ([.ref hx_, .int (iZ x), .int (iZ y), .int (iZ bw)] : List Value).toArray s 2 12 A) (F0 m 89 ls []) := by
                  intro n_89
                  induction n_89 with
                  | zero => intro c_ dn2 K2 j1 j2 j3 hm; exact absurd hm (by omega)
                  | succ n_89 ih_89 =>
                    intro c_ dn2 K2 j1 j2 j3 hm_89 H locs hP hD hS ls hl
                    have j3b := j3.1
                    refine lv_iload hx hb d_D_picture_89 (lv_at hl 8 rfl) ?_
                    refine lv_iload_n hx hb d_D_picture_91 rfl (lv_at hl 3 rfl) ?_
                    refine zi_ge (tgt := 150) hx hb d_D_picture_92 (by decide) (by omega) (by omega) (by omega) (by omega) (fun c_92 => ?_) (fun c_92 => ?_)
                    · refine lv_iinc (v := iZ (r_ + 1)) (lv' := [(7, .int (iZ (r_ + 1))), (0, .ref hx_), (1, .int (iZ x)), (2, .int (iZ y)), (3, .int (iZ bw)), (4, .int (iZ rb)), (5, .int (iZ rows)), (6, .int (iZ dn2)), (8, .int (iZ c_))]) hx hb d_D_picture_150 hl (k := 7) rfl (iZ_add _ _) (by decide) rfl (fun ls hl => ?_)
                      refine lv_goto (tgt := 79) hx hb d_D_picture_153 (by decide) ?_
                      exact ih_79 (r_ + 1) dn2 K2 (by omega) (by omega) (ac_ext j3 (fun px py _ => by rw [show c_ = bw by omega]; exact pc_row px py)) (by omega) _ _ hP hD hS ls (lv_sub hl [1, 2, 3, 4, 5, 6, 7, 0] rfl)
                    · have ix9 := pc_ix (c := c_) hn9 (by omega) i1 (by omega) j1 (by omega) (show bw ≤ 8 * rb by omega)
                      refine lv_aload_n hx hb d_D_picture_95 rfl (lv_at hl 0 rfl) ?_
                      refine va_get (D := (dC, dI)) (ci := 4) (v := .ref hd) (C := R_D) (T := T_D) (N := 4) hx hb hts wi_D hown hK hP 0 rfl rfl 2 (by decide) (hts _ t_128) (fun _ h9 => h9) rfl d_D_picture_96 ?_
                      refine lv_bipush (v := iZ (8)) hx hb d_D_picture_99 (by decide) ?_
                      refine lv_iload hx hb d_D_picture_101 (lv_at hl 4 rfl) ?_
                      refine zi_mul hx hb d_D_picture_103 ?_
                      refine lv_iload hx hb d_D_picture_104 (lv_at hl 7 rfl) ?_
                      refine zi_mul hx hb d_D_picture_106 ?_
                      refine lv_iload hx hb d_D_picture_107 (lv_at hl 8 rfl) ?_
                      refine zi_add hx hb d_D_picture_109 ?_
                      refine vp_callSi (va_runV (As := [.int (iZ (((8 * rb) * r_) + c_))]) (rest := []) ⟨hx, hb, hml, hown, hts⟩ (c_Draft_hasBit l dC dI hd hy cB n Y dr (((8 * rb) * r_) + c_) (by first | omega | assumption) (by first | omega | assumption) (by first | omega | assumption) (ix9.1) (ix9.2)) (cwV 1 hts (gV t_541 t_542 t_543 t_4 t_544) rfl rfl rfl (by decide +kernel) ⟨Nat.le_of_ble_eq_true rfl, Nat.le_of_ble_eq_true rfl⟩) ⟨zPr_blind, va_recv hK hP (ci := 0) (q0 := 3) rfl rfl, zPr_pre hP hK [3, 4] [1] rfl rfl⟩ rfl rfl hl.1 rfl (lv_room (Nat.le_of_ble_eq_true rfl)) d_D_picture_110 ⟨Nat.le_of_ble_eq_true rfl, Nat.le_of_ble_eq_true rfl⟩).run (fun r_110 q_110 => ?_)
                      obtain rfl := q_110
                      refine zb_if_eq (tgt := 144) hx hb d_D_picture_113 (by decide) (fun c_113 => ?_) (fun c_113 => ?_)
                      · refine lv_iinc (v := iZ (c_ + 1)) (lv' := [(8, .int (iZ (c_ + 1))), (0, .ref hx_), (1, .int (iZ x)), (2, .int (iZ y)), (3, .int (iZ bw)), (4, .int (iZ rb)), (5, .int (iZ rows)), (6, .int (iZ dn2)), (7, .int (iZ r_))]) hx hb d_D_picture_144 hl (k := 8) rfl (iZ_add _ _) (by decide) rfl (fun ls hl => ?_)
                        refine lv_goto (tgt := 89) hx hb d_D_picture_147 (by decide) ?_
                        exact ih_89 (c_ + 1) dn2 K2 (by omega) (by omega) (by first | exact ac_ext j3 (fun px py _ => pc_no c_113 px py) | (rw [e_v6_142, boxN_cnt w1 h1]; exact ac_step j3 q_138 (fun px py => pc_d px py) (fun px py => pc_yes (by omega) (by omega) (by omega) (by omega) c_113 px py))) (by omega) _ _ hP hD hS ls (lv_sub hl [1, 2, 3, 4, 5, 6, 7, 8, 0] rfl)
                      · refine lv_iload hx hb d_D_picture_116 (lv_at hl 6 rfl) ?_
                        refine lv_aload_n hx hb d_D_picture_118 rfl (lv_at hl 0 rfl) ?_
                        refine va_get (D := (dC, dI)) (ci := 4) (v := .ref hp) (C := R_D) (T := T_D) (N := 4) hx hb hts wi_D hown hK hP 0 rfl rfl 0 (by decide) (hts _ t_126) (fun _ h9 => h9) rfl d_D_picture_119 ?_
                        refine lv_iload_n hx hb d_D_picture_122 rfl (lv_at hl 1 rfl) ?_
                        refine lv_iload hx hb d_D_picture_123 (lv_at hl 8 rfl) ?_
                        refine zi_add hx hb d_D_picture_125 ?_
                        refine lv_iload_n hx hb d_D_picture_126 rfl (lv_at hl 2 rfl) ?_
                        refine lv_iload hx hb d_D_picture_127 (lv_at hl 7 rfl) ?_
                        refine zi_add hx hb d_D_picture_129 ?_
                        refine lv_iload_n hx hb d_D_picture_130 rfl (lv_at hl 1 rfl) ?_
                        refine lv_iload hx hb d_D_picture_131 (lv_at hl 8 rfl) ?_
                        refine zi_add hx hb d_D_picture_133 ?_
                        refine lv_iload_n hx hb d_D_picture_134 rfl (lv_at hl 2 rfl) ?_
                        refine lv_iload hx hb d_D_picture_135 (lv_at hl 7 rfl) ?_
                        refine zi_add hx hb d_D_picture_137 ?_
                        refine zc_i (w1 := fun (u_138 : Int → Int64) => [(hp, .inr (2, [.int (iZ w), .int (iZ h), .int (iZ mn), .ref hw, .ref hs, .ref hk])), (hw, .inl (cL, 16384, .inr (.inl (aL u_138))))]) (wr := [(hx_, .inr (4, [.ref hp, .ref hst, .ref hd, .ref hfa])), (hd, .inr (0, [.int (iZ n), .ref hy])), (hy, .inl (cB, 4096, .inl (aI Y)))]) (va_runV (As := [.int (iZ (x + c_)), .int (iZ (y + r_)), .int (iZ (x + c_)), .int (iZ (y + r_))]) (rest := [.int (iZ dn2)]) ⟨hx, hb, hml, hown, hts⟩ (c_Paper_drawBox l dC dI hp hw hs hk cL w h mn K2 (drw mn (fun px py => onB w h px py && picP dr x y bw rb rows r_ c_ px py) pic) (x + c_) (y + r_) (x + c_) (y + r_) H.size (by first | omega | assumption) (by first | omega | assumption) (by first | omega | assumption) (by first | omega | assumption) (by first | omega | assumption) (by first | omega | assumption) (by first | omega | assumption) (by first | omega | assumption) (by first | omega | assumption) (by first | omega | assumption) (by first | omega | assumption) (by first | omega | assumption) (by first | omega | assumption) (by first | omega | assumption) (by first | omega | assumption)) (cwV 4 hts (gV t_292 t_279 t_280 t_2 t_281) rfl rfl rfl (by decide +kernel) ⟨Nat.le_of_ble_eq_true rfl, Nat.le_of_ble_eq_true rfl⟩) ⟨zPm_blind, va_recv hK hP (ci := 2) (q0 := 1) rfl rfl, zPm_pre hP hD hK [1, 2] [0] rfl rfl rfl rfl⟩ rfl rfl hl.1 rfl (lv_room (Nat.le_of_ble_eq_true rfl)) d_D_picture_138 ⟨Nat.le_of_ble_eq_true rfl, Nat.le_of_ble_eq_true rfl⟩) hP hD hS hA [1, 2] [0, 3, 4] rfl rfl rfl (by decide) (fun r_138 u_138 H locs q_138 hP hD hS => ?_)
                        have hP : va_P (dC, dI) vwCl [(hx_, .inr (4, [.ref hp, .ref hst, .ref hd, .ref hfa])), (hd, .inr (0, [.int (iZ n), .ref hy])), (hy, .inl (cB, 4096, .inl (aI Y))), (hp, .inr (2, [.int (iZ w), .int (iZ h), .int (iZ mn), .ref hw, .ref hs, .ref hk])), (hw, .inl (cL, 16384, .inr (.inl (aL u_138))))] H := hP
                        have hD : va_D A [(hx_, .inr (4, [.ref hp, .ref hst, .ref hd, .ref hfa])), (hd, .inr (0, [.int (iZ n), .ref hy])), (hy, .inl (cB, 4096, .inl (aI Y))), (hp, .inr (2, [.int (iZ w), .int (iZ h), .int (iZ mn), .ref hw, .ref hs, .ref hk])), (hw, .inl (cL, 16384, .inr (.inl (aL u_138))))] := hD
                        obtain ⟨rfl, q_138⟩ := q_138
                        refine zi_add hx hb d_D_picture_141 ?_
                        refine zn_z (fun v6_142 e_v6_142 => ?_)
                        refine lv_istore (lv' := [(6, .int (iZ v6_142)), (0, .ref hx_), (1, .int (iZ x)), (2, .int (iZ y)), (3, .int (iZ bw)), (4, .int (iZ rb)), (5, .int (iZ rows)), (7, .int (iZ r_)), (8, .int (iZ c_))]) hx hb d_D_picture_142 hl (by decide) rfl (fun ls hl => ?_)
                        refine lv_iinc (v := iZ (c_ + 1)) (lv' := [(8, .int (iZ (c_ + 1))), (6, .int (iZ v6_142)), (0, .ref hx_), (1, .int (iZ x)), (2, .int (iZ y)), (3, .int (iZ bw)), (4, .int (iZ rb)), (5, .int (iZ rows)), (7, .int (iZ r_))]) hx hb d_D_picture_144 hl (k := 8) rfl (iZ_add _ _) (by decide) rfl (fun ls hl => ?_)
                        refine lv_goto (tgt := 89) hx hb d_D_picture_147 (by decide) ?_
                        exact ih_89 (c_ + 1) v6_142 u_138 (by omega) (by omega) (by first | exact ac_ext j3 (fun px py _ => pc_no c_113 px py) | (rw [e_v6_142, boxN_cnt w1 h1]; exact ac_step j3 q_138 (fun px py => pc_d px py) (fun px py => pc_yes (by omega) (by omega) (by omega) (by omega) c_113 px py))) (by omega) _ _ (hP.sub (ws' := [(hx_, .inr (4, [.ref hp, .ref hst, .ref hd, .ref hfa])), (hp, .inr (2, [.int (iZ w), .int (iZ h), .int (iZ mn), .ref hw, .ref hs, .ref hk])), (hw, .inl (cL, 16384, .inr (.inl (aL u_138)))), (hd, .inr (0, [.int (iZ n), .ref hy])), (hy, .inl (cB, 4096, .inl (aI Y)))]) [0, 3, 4, 1, 2] rfl) (hD.sub (ws' := [(hx_, .inr (4, [.ref hp, .ref hst, .ref hd, .ref hfa])), (hp, .inr (2, [.int (iZ w), .int (iZ h), .int (iZ mn), .ref hw, .ref hs, .ref hk])), (hw, .inl (cL, 16384, .inr (.inl (aL u_138)))), (hd, .inr (0, [.int (iZ n), .ref hy])), (hy, .inl (cB, 4096, .inl (aI Y)))]) [0, 3, 4, 1, 2] (by decide) rfl) hS ls (lv_sub hl [2, 3, 4, 5, 6, 7, 1, 8, 0] rfl)
                exact LP_89 _ 0 dn K (by omega) (by omega) (i3) (Nat.lt_succ_self _) _ _ hP hD hS ls (lv_sub hl [1, 2, 3, 4, 5, 6, 7, 8, 0] rfl)
          exact LP_79 _ 0 0 G (by omega) (by omega) (ac_0 hR (fun px py => pc_0 px py)) (Nat.lt_succ_self _) _ _ hP hD hS ls (lv_sub hl [4, 5, 6, 7, 3, 2, 1, 0] rfl)
        · exact vx_throwS (own := R_D) (cls := "java/lang/IllegalStateException") (text := "the last row is not whole") (names := ["java/lang/RuntimeException", "java/lang/Exception"]) (A := A) hx hb hnt hown rfl (by decide +kernel) (hts _ t_525) (hts _ t_16) (hXK.2.1 3 _ rfl) (vx_hat (fun w9 h9 => hts w9 (xg_168 w9 h9)) xb_168 (fun w9 h9 => va_Nw.use (xb_ot w9 h9) (hXK.1 w9 h9))) xo_168 hXK.2.2.1 hXK.2.2.2 hS (hl.1.trans hml.symm) d_D_picture_51 d_D_picture_54 d_D_picture_55 d_D_picture_57 d_D_picture_60 (fun x9 h9 => (noEx x9 h9).elim) (Nat.lt_of_lt_of_le (Nat.lt_succ_self _) (Nat.le_of_ble_eq_true rfl)) (Nat.le_of_ble_eq_true rfl) (Nat.le_of_ble_eq_true rfl) (Nat.le_of_ble_eq_true rfl) hlocks (fun t ha hz hk => ⟨(), trivial, ⟨Or.inr ⟨rfl, by omega, by rw [← e_rb]; omega⟩, zX_P hP hk, va_K.moved ha hK, hD⟩, hS.trans hz hk⟩) hS.2.2 (Nat.le_of_ble_eq_true rfl) (Nat.le_of_ble_eq_true rfl)
theorem d_D_square_0 : decode c_yD_square 0 = .ok (.iload_n 1, 1) := by decide +kernel
theorem d_D_square_1 : decode c_yD_square 1 = .ok (.iload_n 2, 1) := by decide +kernel
theorem d_D_square_2 : decode c_yD_square 2 = .ok (.iload 5, 2) := by decide +kernel
theorem d_D_square_4 : decode c_yD_square 4 = .ok (.invokestatic 134, 3) := by decide +kernel
theorem d_D_square_7 : decode c_yD_square 7 = .ok (.iload_n 3, 1) := by decide +kernel
theorem d_D_square_8 : decode c_yD_square 8 = .ok (.iconst 1, 1) := by decide +kernel
theorem d_D_square_9 : decode c_yD_square 9 = .ok (.sipush 177, 3) := by decide +kernel
theorem d_D_square_12 : decode c_yD_square 12 = .ok (.invokestatic 39, 3) := by decide +kernel
theorem d_D_square_15 : decode c_yD_square 15 = .ok (.ifCond .eq 18, 3) := by decide +kernel
theorem d_D_square_18 : decode c_yD_square 18 = .ok (.iload 4, 2) := by decide +kernel
theorem d_D_square_20 : decode c_yD_square 20 = .ok (.iconst 1, 1) := by decide +kernel
theorem d_D_square_21 : decode c_yD_square 21 = .ok (.bipush 50, 2) := by decide +kernel
theorem d_D_square_23 : decode c_yD_square 23 = .ok (.invokestatic 39, 3) := by decide +kernel
theorem d_D_square_26 : decode c_yD_square 26 = .ok (.ifCond .eq 7, 3) := by decide +kernel
theorem d_D_square_29 : decode c_yD_square 29 = .ok (.iconst 1, 1) := by decide +kernel
theorem d_D_square_30 : decode c_yD_square 30 = .ok (.goto 4, 3) := by decide +kernel
theorem d_D_square_33 : decode c_yD_square 33 = .ok (.iconst 0, 1) := by decide +kernel
theorem d_D_square_34 : decode c_yD_square 34 = .ok (.invokestatic 43, 3) := by decide +kernel
theorem d_D_square_37 : decode c_yD_square 37 = .ok (.bipush 8, 2) := by decide +kernel
theorem d_D_square_39 : decode c_yD_square 39 = .ok (.aload_n 0, 1) := by decide +kernel
theorem d_D_square_40 : decode c_yD_square 40 = .ok (.getfield 28, 3) := by decide +kernel
theorem d_D_square_43 : decode c_yD_square 43 = .ok (.getfield 59, 3) := by decide +kernel
theorem d_D_square_46 : decode c_yD_square 46 = .ok (.imul, 1) := by decide +kernel
theorem d_D_square_47 : decode c_yD_square 47 = .ok (.iload_n 3, 1) := by decide +kernel
theorem d_D_square_48 : decode c_yD_square 48 = .ok (.iload_n 3, 1) := by decide +kernel
theorem d_D_square_49 : decode c_yD_square 49 = .ok (.imul, 1) := by decide +kernel
theorem d_D_square_50 : decode c_yD_square 50 = .ok (.if_icmp .ge 13, 3) := by decide +kernel
theorem d_D_square_53 : decode c_yD_square 53 = .ok (.new 164, 3) := by decide +kernel
theorem d_D_square_56 : decode c_yD_square 56 = .ok (.dup, 1) := by decide +kernel
theorem d_D_square_57 : decode c_yD_square 57 = .ok (.ldc 166, 2) := by decide +kernel
theorem d_D_square_59 : decode c_yD_square 59 = .ok (.invokespecial 168, 3) := by decide +kernel
theorem d_D_square_62 : decode c_yD_square 62 = .ok (.athrow, 1) := by decide +kernel
theorem d_D_square_63 : decode c_yD_square 63 = .ok (.aload_n 0, 1) := by decide +kernel
theorem d_D_square_64 : decode c_yD_square 64 = .ok (.getfield 21, 3) := by decide +kernel
theorem d_D_square_67 : decode c_yD_square 67 = .ok (.iload_n 1, 1) := by decide +kernel
theorem d_D_square_68 : decode c_yD_square 68 = .ok (.iload_n 2, 1) := by decide +kernel
theorem d_D_square_69 : decode c_yD_square 69 = .ok (.iload 5, 2) := by decide +kernel
theorem d_D_square_71 : decode c_yD_square 71 = .ok (.invokevirtual 137, 3) := by decide +kernel
theorem d_D_square_74 : decode c_yD_square 74 = .ok (.iconst 0, 1) := by decide +kernel
theorem d_D_square_75 : decode c_yD_square 75 = .ok (.istore 6, 2) := by decide +kernel
theorem d_D_square_77 : decode c_yD_square 77 = .ok (.iconst 0, 1) := by decide +kernel
theorem d_D_square_78 : decode c_yD_square 78 = .ok (.istore 7, 2) := by decide +kernel
theorem d_D_square_80 : decode c_yD_square 80 = .ok (.iload 7, 2) := by decide +kernel
theorem d_D_square_82 : decode c_yD_square 82 = .ok (.iload_n 3, 1) := by decide +kernel
theorem d_D_square_83 : decode c_yD_square 83 = .ok (.if_icmp .ge 67, 3) := by decide +kernel
theorem d_D_square_86 : decode c_yD_square 86 = .ok (.iconst 0, 1) := by decide +kernel
theorem d_D_square_87 : decode c_yD_square 87 = .ok (.istore 8, 2) := by decide +kernel
theorem d_D_square_89 : decode c_yD_square 89 = .ok (.iload 8, 2) := by decide +kernel
theorem d_D_square_91 : decode c_yD_square 91 = .ok (.iload_n 3, 1) := by decide +kernel
theorem d_D_square_92 : decode c_yD_square 92 = .ok (.if_icmp .ge 52, 3) := by decide +kernel
theorem d_D_square_95 : decode c_yD_square 95 = .ok (.aload_n 0, 1) := by decide +kernel
theorem d_D_square_96 : decode c_yD_square 96 = .ok (.getfield 28, 3) := by decide +kernel
theorem d_D_square_99 : decode c_yD_square 99 = .ok (.iload_n 3, 1) := by decide +kernel
theorem d_D_square_100 : decode c_yD_square 100 = .ok (.iload 7, 2) := by decide +kernel
theorem d_D_square_102 : decode c_yD_square 102 = .ok (.imul, 1) := by decide +kernel
theorem d_D_square_103 : decode c_yD_square 103 = .ok (.iload 8, 2) := by decide +kernel
theorem d_D_square_105 : decode c_yD_square 105 = .ok (.iadd, 1) := by decide +kernel
theorem d_D_square_106 : decode c_yD_square 106 = .ok (.invokevirtual 169, 3) := by decide +kernel
theorem d_D_square_109 : decode c_yD_square 109 = .ok (.ifCond .eq 29, 3) := by decide +kernel
theorem d_D_square_112 : decode c_yD_square 112 = .ok (.iload 6, 2) := by decide +kernel
theorem d_D_square_114 : decode c_yD_square 114 = .ok (.aload_n 0, 1) := by decide +kernel
theorem d_D_square_115 : decode c_yD_square 115 = .ok (.getfield 21, 3) := by decide +kernel
theorem d_D_square_118 : decode c_yD_square 118 = .ok (.iload 4, 2) := by decide +kernel
theorem d_D_square_120 : decode c_yD_square 120 = .ok (.iload 8, 2) := by decide +kernel
theorem d_D_square_122 : decode c_yD_square 122 = .ok (.imul, 1) := by decide +kernel
theorem d_D_square_123 : decode c_yD_square 123 = .ok (.iload 4, 2) := by decide +kernel
theorem d_D_square_125 : decode c_yD_square 125 = .ok (.iload 7, 2) := by decide +kernel
theorem d_D_square_127 : decode c_yD_square 127 = .ok (.imul, 1) := by decide +kernel
theorem d_D_square_128 : decode c_yD_square 128 = .ok (.iload 4, 2) := by decide +kernel
theorem d_D_square_130 : decode c_yD_square 130 = .ok (.iload 4, 2) := by decide +kernel
theorem d_D_square_132 : decode c_yD_square 132 = .ok (.invokevirtual 161, 3) := by decide +kernel
theorem d_D_square_135 : decode c_yD_square 135 = .ok (.iadd, 1) := by decide +kernel
theorem d_D_square_136 : decode c_yD_square 136 = .ok (.istore 6, 2) := by decide +kernel
theorem d_D_square_138 : decode c_yD_square 138 = .ok (.iinc 8 1, 3) := by decide +kernel
theorem d_D_square_141 : decode c_yD_square 141 = .ok (.goto (-52), 3) := by decide +kernel
theorem d_D_square_144 : decode c_yD_square 144 = .ok (.iinc 7 1, 3) := by decide +kernel
theorem d_D_square_147 : decode c_yD_square 147 = .ok (.goto (-67), 3) := by decide +kernel
theorem d_D_square_150 : decode c_yD_square 150 = .ok (.iload 6, 2) := by decide +kernel
theorem d_D_square_152 : decode c_yD_square 152 = .ok (.ireturn, 1) := by decide +kernel
set_option maxHeartbeats 4000000 in
set_option maxRecDepth 100000 in
theorem c_DotSheet_square (l : Launch) (hnt : l.stackTraces = false) (dC : Nat → ClassId) (dI : Nat → Nat → Nat) (sa : Nat → Nat) (hx_ hst hd hfa hp hw hs hk : Nat) (cL : ClassId) (w h mn : Int) (G : Int → Int64) (pic : Int → Int → Bool) (hy : Nat) (cB : ClassId) (n : Int) (Y : Int → Int32) (dr : Int → Int) (sx sy sq sl sp sr sb x y sn m_ qr : Int) (sz : Nat) (w1 : 1 ≤ w) (w2 : w ≤ 1024) (h1 : 1 ≤ h) (h2 : h ≤ 1024) (mn1 : 0 ≤ mn) (mn2 : mn ≤ 2) (hR : Rep G pic) (n1 : 0 ≤ n) (n2 : n ≤ 4096) (hY : RepD Y n dr) (x1 : -2147483648 ≤ x) (y1 : -2147483648 ≤ y) (sn1 : -2147483648 ≤ sn) (m_1 : -2147483648 ≤ m_) (qr1 : -2147483648 ≤ qr) (x2 : x ≤ 2147483647) (y2 : y ≤ 2147483647) (sn2 : sn ≤ 2147483647) (m_2 : m_ ≤ 2147483647) (qr2 : qr ≤ 2147483647) : vx_Met l y_D_square w_D_square ({ frames := 8, cells := 3, slots := 18, locals := 142 }) (va_Pc [.ref hx_, .int (iZ x), .int (iZ y), .int (iZ sn), .int (iZ m_), .int (iZ qr)] (zPx (dC, dI) vwCl [(hx_, .inr (4, [.ref hp, .ref hst, .ref hd, .ref hfa])), (hp, .inr (2, [.int (iZ w), .int (iZ h), .int (iZ mn), .ref hw, .ref hs, .ref hk])), (hw, .inl (cL, 16384, .inr (.inl (aL G)))), (hd, .inr (0, [.int (iZ n), .ref hy])), (hy, .inl (cB, 4096, .inl (aI Y))), (hst, .inr (3, [.ref hp, .int (iZ sx), .int (iZ sy), .int (iZ sq), .int (iZ sl), .int (iZ sp), .int (iZ sr), .int (iZ sb)]))] [(cL, .long), (cB, .byte)] sz sa)) (va_Qi (fun (r : Int32) (u : (Int → Int64) × Int × Int × Int × Int) => r = iZ (cnt w h (sqB dr qr x y sn m_)) ∧ (-4096 ≤ x ∧ x ≤ 4096 ∧ -4096 ≤ y ∧ y ≤ 4096 ∧ 0 ≤ qr ∧ qr ≤ 3 ∧ 1 ≤ sn ∧ sn ≤ 177 ∧ 1 ≤ m_ ∧ m_ ≤ 50 ∧ sn * sn ≤ 8 * n) ∧ Rep u.1 (drw mn (fun px py => onB w h px py && sqB dr qr x y sn m_ px py) pic)) (fun u => zB (dC, dI) vwCl [(cL, .long), (cB, .byte)] (va_A [(hx_, .inr (4, [.ref hp, .ref hst, .ref hd, .ref hfa])), (hp, .inr (2, [.int (iZ w), .int (iZ h), .int (iZ mn), .ref hw, .ref hs, .ref hk])), (hw, .inl (cL, 16384, .inr (.inl (aL G)))), (hd, .inr (0, [.int (iZ n), .ref hy])), (hy, .inl (cB, 4096, .inl (aI Y))), (hst, .inr (3, [.ref hp, .int (iZ sx), .int (iZ sy), .int (iZ sq), .int (iZ sl), .int (iZ sp), .int (iZ sr), .int (iZ sb)]))] sz) [(hx_, .inr (4, [.ref hp, .ref hst, .ref hd, .ref hfa])), (hp, .inr (2, [.int (iZ w), .int (iZ h), .int (iZ mn), .ref hw, .ref hs, .ref hk])), (hw, .inl (cL, 16384, .inr (.inl (aL u.1)))), (hd, .inr (0, [.int (iZ n), .ref hy])), (hy, .inl (cB, 4096, .inl (aI Y))), (hst, .inr (3, [.ref hp, .int (iZ x), .int (iZ y), .int (iZ qr), .int (iZ u.2.1), .int (iZ u.2.2.1), .int (iZ u.2.2.2.1), .int (iZ u.2.2.2.2)]))]) (va_A [(hx_, .inr (4, [.ref hp, .ref hst, .ref hd, .ref hfa])), (hp, .inr (2, [.int (iZ w), .int (iZ h), .int (iZ mn), .ref hw, .ref hs, .ref hk])), (hw, .inl (cL, 16384, .inr (.inl (aL G)))), (hd, .inr (0, [.int (iZ n), .ref hy])), (hy, .inl (cB, 4096, .inl (aI Y))), (hst, .inr (3, [.ref hp, .int (iZ sx), .int (iZ sy), .int (iZ sq), .int (iZ sl), .int (iZ sp), .int (iZ sr), .int (iZ sb)]))] sz)) (zX (fun E => (E = "java/lang/IllegalArgumentException" ∧ ¬ (-4096 ≤ x ∧ x ≤ 4096 ∧ -4096 ≤ y ∧ y ≤ 4096 ∧ 0 ≤ qr ∧ qr ≤ 3 ∧ 1 ≤ sn ∧ sn ≤ 177 ∧ 1 ≤ m_ ∧ m_ ≤ 50)) ∨ (E = "java/lang/IllegalStateException" ∧ (-4096 ≤ x ∧ x ≤ 4096 ∧ -4096 ≤ y ∧ y ≤ 4096 ∧ 0 ≤ qr ∧ qr ≤ 3 ∧ 1 ≤ sn ∧ sn ≤ 177 ∧ 1 ≤ m_ ∧ m_ ≤ 50) ∧ 8 * n < sn * sn)) (dC, dI) vwCl [(cL, .long), (cB, .byte)] (va_A [(hx_, .inr (4, [.ref hp, .ref hst, .ref hd, .ref hfa])), (hp, .inr (2, [.int (iZ w), .int (iZ h), .int (iZ mn), .ref hw, .ref hs, .ref hk])), (hw, .inl (cL, 16384, .inr (.inl (aL G)))), (hd, .inr (0, [.int (iZ n), .ref hy])), (hy, .inl (cB, 4096, .inl (aI Y))), (hst, .inr (3, [.ref hp, .int (iZ sx), .int (iZ sy), .int (iZ sq), .int (iZ sl), .int (iZ sp), .int (iZ sr), .int (iZ sb)]))] sz) [(hx_, .inr (4, [.ref hp, .ref hst, .ref hd, .ref hfa])), (hp, .inr (2, [.int (iZ w), .int (iZ h), .int (iZ mn), .ref hw, .ref hs, .ref hk])), (hw, .inl (cL, 16384, .inr (.inl (aL G)))), (hd, .inr (0, [.int (iZ n), .ref hy])), (hy, .inl (cB, 4096, .inl (aI Y))), (hst, .inr (3, [.ref hp, .int (iZ sx), .int (iZ sy), .int (iZ sq), .int (iZ sl), .int (iZ sp), .int (iZ sr), .int (iZ sb)]))]) 3 18 (va_A [(hx_, .inr (4, [.ref hp, .ref hst, .ref hd, .ref hfa])), (hp, .inr (2, [.int (iZ w), .int (iZ h), .int (iZ mn), .ref hw, .ref hs, .ref hk])), (hw, .inl (cL, 16384, .inr (.inl (aL G)))), (hd, .inr (0, [.int (iZ n), .ref hy])), (hy, .inl (cB, 4096, .inl (aI Y))), (hst, .inr (3, [.ref hp, .int (iZ sx), .int (iZ sy), .int (iZ sq), .int (iZ sl), .int (iZ sp), .int (iZ sr), .int (iZ sb)]))] sz) := by
  refine vx_ofW (cc := c_yD_square) (maxL := 9) (ret := (some .int)) (by decide) rfl ?_
  intro p e s m args below meth c s₁ B hml noEx hv
  obtain ⟨rfl, hsz, hP, hK, hD0, hXK⟩ := hv
  have hx := B.exec
  have hb := B.bytes
  have hr := B.returns
  have hts0 := atoms_spec (ws := w_D_square) B.pre
  have hts : ∀ w ∈ gT, w.before _ s = true := fun w h => hts0 w (List.mem_cons_of_mem _ h)
  have hown : s.vm.findClass R_D = some m.cls := findClass_of_methodNamed B.named
  have hlocks := B.notSynchronized
  subst hsz
  have hD := hD0.self (sz := s.heap.size)
  generalize hAe : va_A [(hx_, .inr (4, [.ref hp, .ref hst, .ref hd, .ref hfa])), (hp, .inr (2, [.int (iZ w), .int (iZ h), .int (iZ mn), .ref hw, .ref hs, .ref hk])), (hw, .inl (cL, 16384, .inr (.inl (aL G)))), (hd, .inr (0, [.int (iZ n), .ref hy])), (hy, .inl (cB, 4096, .inl (aI Y))), (hst, .inr (3, [.ref hp, .int (iZ sx), .int (iZ sy), .int (iZ sq), .int (iZ sl), .int (iZ sp), .int (iZ sr), .int (iZ sb)]))] s.heap.size = A at hD hXK ⊢
  have hA : ∀ q : Nat, s.heap.size ≤ q → A q := fun q h => by rw [← hAe]; exact Or.inr h
  obtain ⟨H, hH⟩ : ∃ H, s.heap = H := ⟨_, rfl⟩
  have hS : va_S A s.heap H [] := by rw [← hH]; exact va_S.rf
  rw [hH] at hP
  rw [hH]
  have hl := lv_entry ([.ref hx_, .int (iZ x), .int (iZ y), .int (iZ sn), .int (iZ m_), .int (iZ qr)]) (n := 9) (Nat.le_of_ble_eq_true rfl)
  rw [lg_entry_eq]
  generalize (lg_sl ([.ref hx_, .int (iZ x), .int (iZ y), .int (iZ sn), .int (iZ m_), .int (iZ qr)]) ++ List.replicate (9 - (lg_sl ([.ref hx_, .int (iZ x), .int (iZ y), .int (iZ sn), .int (iZ m_), .int (iZ qr)])).length) Slot.unset).toArray = ls at hl ⊢
  have hl : lv_has ls 9 [(0, .ref hx_), (1, .int (iZ x)), (2, .int (iZ y)), (3, .int (iZ sn)), (4, .int (iZ m_)), (5, .int (iZ qr))] := hl
  refine lv_iload_n hx hb d_D_square_0 rfl (lv_at hl 1 rfl) ?_
  refine lv_iload_n hx hb d_D_square_1 rfl (lv_at hl 2 rfl) ?_
  refine lv_iload hx hb d_D_square_2 (lv_at hl 5 rfl) ?_
  refine zx_v (w1 := fun (u_4 : Unit) => []) (wr := [(hx_, .inr (4, [.ref hp, .ref hst, .ref hd, .ref hfa])), (hp, .inr (2, [.int (iZ w), .int (iZ h), .int (iZ mn), .ref hw, .ref hs, .ref hk])), (hw, .inl (cL, 16384, .inr (.inl (aL G)))), (hd, .inr (0, [.int (iZ n), .ref hy])), (hy, .inl (cB, 4096, .inl (aI Y))), (hst, .inr (3, [.ref hp, .int (iZ sx), .int (iZ sy), .int (iZ sq), .int (iZ sl), .int (iZ sp), .int (iZ sr), .int (iZ sb)]))]) (vx_runS (As := [.int (iZ x), .int (iZ y), .int (iZ qr)]) (rest := []) ⟨hx, hb, hml, hown, hts⟩ (c_DotSheet_demandCorner l hnt dC dI sa x y qr H.size (by first | omega | assumption) (by first | omega | assumption) (by first | omega | assumption) (by first | omega | assumption) (by first | omega | assumption) (by first | omega | assumption)) (va_cwS 3 hts (gS t_467 t_468 t_1 t_469) rfl rfl rfl (by decide +kernel) ⟨Nat.le_of_ble_eq_true rfl, Nat.le_of_ble_eq_true rfl⟩) ⟨zPx_blind, zPx_pre hP hD hK hXK hS hA [] [] rfl rfl rfl rfl⟩ rfl rfl hl.1 rfl (lv_room (Nat.le_of_ble_eq_true rfl)) d_D_square_4 ⟨Nat.le_of_ble_eq_true rfl, Nat.le_of_ble_eq_true rfl⟩) hP hD hS hA [] [0, 1, 2, 3, 4, 5] rfl rfl rfl (by decide) (fun E_ ce_ q9_ H locs x_4 hP hD hS hce hcv hcl => ?_) (fun u_4 H locs q_4 hP hD hS => ?_)
  · have hP : va_P (dC, dI) vwCl [(hx_, .inr (4, [.ref hp, .ref hst, .ref hd, .ref hfa])), (hp, .inr (2, [.int (iZ w), .int (iZ h), .int (iZ mn), .ref hw, .ref hs, .ref hk])), (hw, .inl (cL, 16384, .inr (.inl (aL G)))), (hd, .inr (0, [.int (iZ n), .ref hy])), (hy, .inl (cB, 4096, .inl (aI Y))), (hst, .inr (3, [.ref hp, .int (iZ sx), .int (iZ sy), .int (iZ sq), .int (iZ sl), .int (iZ sp), .int (iZ sr), .int (iZ sb)]))] H := hP
    have hD : va_D A [(hx_, .inr (4, [.ref hp, .ref hst, .ref hd, .ref hfa])), (hp, .inr (2, [.int (iZ w), .int (iZ h), .int (iZ mn), .ref hw, .ref hs, .ref hk])), (hw, .inl (cL, 16384, .inr (.inl (aL G)))), (hd, .inr (0, [.int (iZ n), .ref hy])), (hy, .inl (cB, 4096, .inl (aI Y))), (hst, .inr (3, [.ref hp, .int (iZ sx), .int (iZ sy), .int (iZ sq), .int (iZ sl), .int (iZ sp), .int (iZ sr), .int (iZ sb)]))] := hD
    exact vx_out (fun x9 h9 => (noEx x9 h9).elim) hlocks hce hcv hcl (fun t ht ha => ⟨(), trivial, ⟨Or.inl ⟨x_4.1, by have z9 := x_4.2; omega⟩, by rw [ht]; exact hP, va_K.moved ha hK, hD⟩, hS.F ht⟩) hS.2.2 (Nat.le_of_ble_eq_true rfl) (Nat.le_of_ble_eq_true rfl)
  have hP : va_P (dC, dI) vwCl [(hx_, .inr (4, [.ref hp, .ref hst, .ref hd, .ref hfa])), (hp, .inr (2, [.int (iZ w), .int (iZ h), .int (iZ mn), .ref hw, .ref hs, .ref hk])), (hw, .inl (cL, 16384, .inr (.inl (aL G)))), (hd, .inr (0, [.int (iZ n), .ref hy])), (hy, .inl (cB, 4096, .inl (aI Y))), (hst, .inr (3, [.ref hp, .int (iZ sx), .int (iZ sy), .int (iZ sq), .int (iZ sl), .int (iZ sp), .int (iZ sr), .int (iZ sb)]))] H := hP
  have hD : va_D A [(hx_, .inr (4, [.ref hp, .ref hst, .ref hd, .ref hfa])), (hp, .inr (2, [.int (iZ w), .int (iZ h), .int (iZ mn), .ref hw, .ref hs, .ref hk])), (hw, .inl (cL, 16384, .inr (.inl (aL G)))), (hd, .inr (0, [.int (iZ n), .ref hy])), (hy, .inl (cB, 4096, .inl (aI Y))), (hst, .inr (3, [.ref hp, .int (iZ sx), .int (iZ sy), .int (iZ sq), .int (iZ sl), .int (iZ sp), .int (iZ sr), .int (iZ sb)]))] := hD
  refine lv_iload_n hx hb d_D_square_7 rfl (lv_at hl 3 rfl) ?_
  refine lv_iconst (v := iZ (1)) hx hb d_D_square_8 rfl ?_
  refine lv_sipush (v := iZ (177)) hx hb d_D_square_9 (by decide) ?_
  refine vp_callSi (va_runS (As := [.int (iZ sn), .int (iZ 1), .int (iZ 177)]) (rest := []) ⟨hx, hb, hml, hown, hts⟩ (c_DotSheet_isWithin l dC dI sn 1 177 (by first | omega | assumption) (by first | omega | assumption) (by first | omega | assumption) (by first | omega | assumption) (by first | omega | assumption) (by first | omega | assumption)) (va_cwS 3 hts (gS t_151 t_152 t_1 t_153) rfl rfl rfl (by decide +kernel) ⟨Nat.le_of_ble_eq_true rfl, Nat.le_of_ble_eq_true rfl⟩) ⟨zPr_blind, zPr_pre hP hK [] [] rfl rfl⟩ rfl rfl hl.1 rfl (lv_room (Nat.le_of_ble_eq_true rfl)) d_D_square_12 ⟨Nat.le_of_ble_eq_true rfl, Nat.le_of_ble_eq_true rfl⟩).run (fun r_12 q_12 => ?_)
  obtain rfl := q_12
  refine zb_if_eq (tgt := 33) hx hb d_D_square_15 (by decide) (fun c_15 => ?_) (fun c_15 => ?_)
  · have c_15 := of_decide_eq_false c_15
    refine lv_iconst (v := iZ (0)) hx hb d_D_square_33 rfl ?_
    refine zx_v (w1 := fun (u_34 : Unit) => []) (wr := [(hx_, .inr (4, [.ref hp, .ref hst, .ref hd, .ref hfa])), (hp, .inr (2, [.int (iZ w), .int (iZ h), .int (iZ mn), .ref hw, .ref hs, .ref hk])), (hw, .inl (cL, 16384, .inr (.inl (aL G)))), (hd, .inr (0, [.int (iZ n), .ref hy])), (hy, .inl (cB, 4096, .inl (aI Y))), (hst, .inr (3, [.ref hp, .int (iZ sx), .int (iZ sy), .int (iZ sq), .int (iZ sl), .int (iZ sp), .int (iZ sr), .int (iZ sb)]))]) (vx_runS (As := [.int (bI false)]) (rest := []) ⟨hx, hb, hml, hown, hts⟩ (c_DotSheet_demand l hnt dC dI sa false H.size ) (va_cwS 1 hts (gS t_154 t_155 t_1 t_156) rfl rfl rfl (by decide +kernel) ⟨Nat.le_of_ble_eq_true rfl, Nat.le_of_ble_eq_true rfl⟩) ⟨zPx_blind, zPx_pre hP hD hK hXK hS hA [] [] rfl rfl rfl rfl⟩ rfl rfl hl.1 rfl (lv_room (Nat.le_of_ble_eq_true rfl)) d_D_square_34 ⟨Nat.le_of_ble_eq_true rfl, Nat.le_of_ble_eq_true rfl⟩) hP hD hS hA [] [0, 1, 2, 3, 4, 5] rfl rfl rfl (by decide) (fun E_ ce_ q9_ H locs x_34 hP hD hS hce hcv hcl => ?_) (fun u_34 H locs q_34 hP hD hS => ?_)
    · have hP : va_P (dC, dI) vwCl [(hx_, .inr (4, [.ref hp, .ref hst, .ref hd, .ref hfa])), (hp, .inr (2, [.int (iZ w), .int (iZ h), .int (iZ mn), .ref hw, .ref hs, .ref hk])), (hw, .inl (cL, 16384, .inr (.inl (aL G)))), (hd, .inr (0, [.int (iZ n), .ref hy])), (hy, .inl (cB, 4096, .inl (aI Y))), (hst, .inr (3, [.ref hp, .int (iZ sx), .int (iZ sy), .int (iZ sq), .int (iZ sl), .int (iZ sp), .int (iZ sr), .int (iZ sb)]))] H := hP
      have hD : va_D A [(hx_, .inr (4, [.ref hp, .ref hst, .ref hd, .ref hfa])), (hp, .inr (2, [.int (iZ w), .int (iZ h), .int (iZ mn), .ref hw, .ref hs, .ref hk])), (hw, .inl (cL, 16384, .inr (.inl (aL G)))), (hd, .inr (0, [.int (iZ n), .ref hy])), (hy, .inl (cB, 4096, .inl (aI Y))), (hst, .inr (3, [.ref hp, .int (iZ sx), .int (iZ sy), .int (iZ sq), .int (iZ sl), .int (iZ sp), .int (iZ sr), .int (iZ sb)]))] := hD
      exact vx_out (fun x9 h9 => (noEx x9 h9).elim) hlocks hce hcv hcl (fun t ht ha => ⟨(), trivial, ⟨Or.inl ⟨x_34.1, by omega⟩, by rw [ht]; exact hP, va_K.moved ha hK, hD⟩, hS.F ht⟩) hS.2.2 (Nat.le_of_ble_eq_true rfl) (Nat.le_of_ble_eq_true rfl)
    exact absurd q_34 (by decide)
  · have c_15 := of_decide_eq_true c_15
    refine lv_iload hx hb d_D_square_18 (lv_at hl 4 rfl) ?_
    refine lv_iconst (v := iZ (1)) hx hb d_D_square_20 rfl ?_
    refine lv_bipush (v := iZ (50)) hx hb d_D_square_21 (by decide) ?_
    refine vp_callSi (va_runS (As := [.int (iZ m_), .int (iZ 1), .int (iZ 50)]) (rest := []) ⟨hx, hb, hml, hown, hts⟩ (c_DotSheet_isWithin l dC dI m_ 1 50 (by first | omega | assumption) (by first | omega | assumption) (by first | omega | assumption) (by first | omega | assumption) (by first | omega | assumption) (by first | omega | assumption)) (va_cwS 3 hts (gS t_151 t_152 t_1 t_153) rfl rfl rfl (by decide +kernel) ⟨Nat.le_of_ble_eq_true rfl, Nat.le_of_ble_eq_true rfl⟩) ⟨zPr_blind, zPr_pre hP hK [] [] rfl rfl⟩ rfl rfl hl.1 rfl (lv_room (Nat.le_of_ble_eq_true rfl)) d_D_square_23 ⟨Nat.le_of_ble_eq_true rfl, Nat.le_of_ble_eq_true rfl⟩).run (fun r_23 q_23 => ?_)
    obtain rfl := q_23
    refine zb_if_eq (tgt := 33) hx hb d_D_square_26 (by decide) (fun c_26 => ?_) (fun c_26 => ?_)
    · have c_26 := of_decide_eq_false c_26
      refine lv_iconst (v := iZ (0)) hx hb d_D_square_33 rfl ?_
      refine zx_v (w1 := fun (u_34 : Unit) => []) (wr := [(hx_, .inr (4, [.ref hp, .ref hst, .ref hd, .ref hfa])), (hp, .inr (2, [.int (iZ w), .int (iZ h), .int (iZ mn), .ref hw, .ref hs, .ref hk])), (hw, .inl (cL, 16384, .inr (.inl (aL G)))), (hd, .inr (0, [.int (iZ n), .ref hy])), (hy, .inl (cB, 4096, .inl (aI Y))), (hst, .inr (3, [.ref hp, .int (iZ sx), .int (iZ sy), .int (iZ sq), .int (iZ sl), .int (iZ sp), .int (iZ sr), .int (iZ sb)]))]) (vx_runS (As := [.int (bI false)]) (rest := []) ⟨hx, hb, hml, hown, hts⟩ (c_DotSheet_demand l hnt dC dI sa false H.size ) (va_cwS 1 hts (gS t_154 t_155 t_1 t_156) rfl rfl rfl (by decide +kernel) ⟨Nat.le_of_ble_eq_true rfl, Nat.le_of_ble_eq_true rfl⟩) ⟨zPx_blind, zPx_pre hP hD hK hXK hS hA [] [] rfl rfl rfl rfl⟩ rfl rfl hl.1 rfl (lv_room (Nat.le_of_ble_eq_true rfl)) d_D_square_34 ⟨Nat.le_of_ble_eq_true rfl, Nat.le_of_ble_eq_true rfl⟩) hP hD hS hA [] [0, 1, 2, 3, 4, 5] rfl rfl rfl (by decide) (fun E_ ce_ q9_ H locs x_34 hP hD hS hce hcv hcl => ?_) (fun u_34 H locs q_34 hP hD hS => ?_)
      · have hP : va_P (dC, dI) vwCl [(hx_, .inr (4, [.ref hp, .ref hst, .ref hd, .ref hfa])), (hp, .inr (2, [.int (iZ w), .int (iZ h), .int (iZ mn), .ref hw, .ref hs, .ref hk])), (hw, .inl (cL, 16384, .inr (.inl (aL G)))), (hd, .inr (0, [.int (iZ n), .ref hy])), (hy, .inl (cB, 4096, .inl (aI Y))), (hst, .inr (3, [.ref hp, .int (iZ sx), .int (iZ sy), .int (iZ sq), .int (iZ sl), .int (iZ sp), .int (iZ sr), .int (iZ sb)]))] H := hP
        have hD : va_D A [(hx_, .inr (4, [.ref hp, .ref hst, .ref hd, .ref hfa])), (hp, .inr (2, [.int (iZ w), .int (iZ h), .int (iZ mn), .ref hw, .ref hs, .ref hk])), (hw, .inl (cL, 16384, .inr (.inl (aL G)))), (hd, .inr (0, [.int (iZ n), .ref hy])), (hy, .inl (cB, 4096, .inl (aI Y))), (hst, .inr (3, [.ref hp, .int (iZ sx), .int (iZ sy), .int (iZ sq), .int (iZ sl), .int (iZ sp), .int (iZ sr), .int (iZ sb)]))] := hD
        exact vx_out (fun x9 h9 => (noEx x9 h9).elim) hlocks hce hcv hcl (fun t ht ha => ⟨(), trivial, ⟨Or.inl ⟨x_34.1, by omega⟩, by rw [ht]; exact hP, va_K.moved ha hK, hD⟩, hS.F ht⟩) hS.2.2 (Nat.le_of_ble_eq_true rfl) (Nat.le_of_ble_eq_true rfl)
      exact absurd q_34 (by decide)
    · have c_26 := of_decide_eq_true c_26
      refine lv_iconst (v := iZ (1)) hx hb d_D_square_29 rfl ?_
      refine lv_goto (tgt := 34) hx hb d_D_square_30 (by decide) ?_
      refine zx_v (w1 := fun (u_34 : Unit) => []) (wr := [(hx_, .inr (4, [.ref hp, .ref hst, .ref hd, .ref hfa])), (hp, .inr (2, [.int (iZ w), .int (iZ h), .int (iZ mn), .ref hw, .ref hs, .ref hk])), (hw, .inl (cL, 16384, .inr (.inl (aL G)))), (hd, .inr (0, [.int (iZ n), .ref hy])), (hy, .inl (cB, 4096, .inl (aI Y))), (hst, .inr (3, [.ref hp, .int (iZ sx), .int (iZ sy), .int (iZ sq), .int (iZ sl), .int (iZ sp), .int (iZ sr), .int (iZ sb)]))]) (vx_runS (As := [.int (bI true)]) (rest := []) ⟨hx, hb, hml, hown, hts⟩ (c_DotSheet_demand l hnt dC dI sa true H.size ) (va_cwS 1 hts (gS t_154 t_155 t_1 t_156) rfl rfl rfl (by decide +kernel) ⟨Nat.le_of_ble_eq_true rfl, Nat.le_of_ble_eq_true rfl⟩) ⟨zPx_blind, zPx_pre hP hD hK hXK hS hA [] [] rfl rfl rfl rfl⟩ rfl rfl hl.1 rfl (lv_room (Nat.le_of_ble_eq_true rfl)) d_D_square_34 ⟨Nat.le_of_ble_eq_true rfl, Nat.le_of_ble_eq_true rfl⟩) hP hD hS hA [] [0, 1, 2, 3, 4, 5] rfl rfl rfl (by decide) (fun E_ ce_ q9_ H locs x_34 hP hD hS hce hcv hcl => ?_) (fun u_34 H locs q_34 hP hD hS => ?_)
      · exact absurd x_34.2 (by decide)
      have hP : va_P (dC, dI) vwCl [(hx_, .inr (4, [.ref hp, .ref hst, .ref hd, .ref hfa])), (hp, .inr (2, [.int (iZ w), .int (iZ h), .int (iZ mn), .ref hw, .ref hs, .ref hk])), (hw, .inl (cL, 16384, .inr (.inl (aL G)))), (hd, .inr (0, [.int (iZ n), .ref hy])), (hy, .inl (cB, 4096, .inl (aI Y))), (hst, .inr (3, [.ref hp, .int (iZ sx), .int (iZ sy), .int (iZ sq), .int (iZ sl), .int (iZ sp), .int (iZ sr), .int (iZ sb)]))] H := hP
      have hD : va_D A [(hx_, .inr (4, [.ref hp, .ref hst, .ref hd, .ref hfa])), (hp, .inr (2, [.int (iZ w), .int (iZ h), .int (iZ mn), .ref hw, .ref hs, .ref hk])), (hw, .inl (cL, 16384, .inr (.inl (aL G)))), (hd, .inr (0, [.int (iZ n), .ref hy])), (hy, .inl (cB, 4096, .inl (aI Y))), (hst, .inr (3, [.ref hp, .int (iZ sx), .int (iZ sy), .int (iZ sq), .int (iZ sl), .int (iZ sp), .int (iZ sr), .int (iZ sb)]))] := hD
      have sq9 := sq_le (a := sn) (b := 177) (by omega) (by omega)
      have sq8 := sq_nn sn
      refine lv_bipush (v := iZ (8)) hx hb d_D_square_37 (by decide) ?_
      refine lv_aload_n hx hb d_D_square_39 rfl (lv_at hl 0 rfl) ?_
      refine va_get (D := (dC, dI)) (ci := 4) (v := .ref hd) (C := R_D) (T := T_D) (N := 4) hx hb hts wi_D hown hK hP 0 rfl rfl 2 (by decide) (hts _ t_128) (fun _ h9 => h9) rfl d_D_square_40 ?_
      refine va_get (D := (dC, dI)) (ci := 0) (v := .int (iZ n)) (C := R_Dr) (T := T_Dr) (N := 2) hx hb hts wi_Dr hown hK hP 3 rfl rfl 0 (by decide) (hts _ t_94) (fun _ h9 => h9) rfl d_D_square_43 ?_
      refine zi_mul hx hb d_D_square_46 ?_
      refine lv_iload_n hx hb d_D_square_47 rfl (lv_at hl 3 rfl) ?_
      refine lv_iload_n hx hb d_D_square_48 rfl (lv_at hl 3 rfl) ?_
      refine zi_mul hx hb d_D_square_49 ?_
      refine zi_ge (tgt := 63) hx hb d_D_square_50 (by decide) (by omega) (by omega) (by omega) (by omega) (fun c_50 => ?_) (fun c_50 => ?_)
      · refine lv_aload_n hx hb d_D_square_63 rfl (lv_at hl 0 rfl) ?_
        refine va_get (D := (dC, dI)) (ci := 4) (v := .ref hst) (C := R_D) (T := T_D) (N := 4) hx hb hts wi_D hown hK hP 0 rfl rfl 1 (by decide) (hts _ t_127) (fun _ h9 => h9) rfl d_D_square_64 ?_
        refine lv_iload_n hx hb d_D_square_67 rfl (lv_at hl 1 rfl) ?_
        refine lv_iload_n hx hb d_D_square_68 rfl (lv_at hl 2 rfl) ?_
        refine lv_iload hx hb d_D_square_69 (lv_at hl 5 rfl) ?_
        refine zc_v (w1 := fun (u_71 : Unit) => [(hst, .inr (3, [.ref hp, .int (iZ x), .int (iZ y), .int (iZ qr), .int (iZ sl), .int (iZ sp), .int (iZ sr), .int (iZ sb)]))]) (wr := [(hx_, .inr (4, [.ref hp, .ref hst, .ref hd, .ref hfa])), (hp, .inr (2, [.int (iZ w), .int (iZ h), .int (iZ mn), .ref hw, .ref hs, .ref hk])), (hw, .inl (cL, 16384, .inr (.inl (aL G)))), (hd, .inr (0, [.int (iZ n), .ref hy])), (hy, .inl (cB, 4096, .inl (aI Y)))]) (va_runV (As := [.int (iZ x), .int (iZ y), .int (iZ qr)]) (rest := []) ⟨hx, hb, hml, hown, hts⟩ (c_Steps_startAt l dC dI hst hp sx sy sq sl sp sr sb x y qr H.size ) (cwV 3 hts (gV t_473 t_474 t_475 t_3 t_476) rfl rfl rfl (by decide +kernel) ⟨Nat.le_of_ble_eq_true rfl, Nat.le_of_ble_eq_true rfl⟩) ⟨zPm_blind, va_recv hK hP (ci := 3) (q0 := 5) rfl rfl, zPm_pre hP hD hK [5] [] rfl rfl rfl rfl⟩ rfl rfl hl.1 rfl (lv_room (Nat.le_of_ble_eq_true rfl)) d_D_square_71 ⟨Nat.le_of_ble_eq_true rfl, Nat.le_of_ble_eq_true rfl⟩) hP hD hS hA [5] [0, 1, 2, 3, 4] rfl rfl rfl (by decide) (fun u_71 H locs q_71 hP hD hS => ?_)
        have hP : va_P (dC, dI) vwCl [(hx_, .inr (4, [.ref hp, .ref hst, .ref hd, .ref hfa])), (hp, .inr (2, [.int (iZ w), .int (iZ h), .int (iZ mn), .ref hw, .ref hs, .ref hk])), (hw, .inl (cL, 16384, .inr (.inl (aL G)))), (hd, .inr (0, [.int (iZ n), .ref hy])), (hy, .inl (cB, 4096, .inl (aI Y))), (hst, .inr (3, [.ref hp, .int (iZ x), .int (iZ y), .int (iZ qr), .int (iZ sl), .int (iZ sp), .int (iZ sr), .int (iZ sb)]))] H := hP
        have hD : va_D A [(hx_, .inr (4, [.ref hp, .ref hst, .ref hd, .ref hfa])), (hp, .inr (2, [.int (iZ w), .int (iZ h), .int (iZ mn), .ref hw, .ref hs, .ref hk])), (hw, .inl (cL, 16384, .inr (.inl (aL G)))), (hd, .inr (0, [.int (iZ n), .ref hy])), (hy, .inl (cB, 4096, .inl (aI Y))), (hst, .inr (3, [.ref hp, .int (iZ x), .int (iZ y), .int (iZ qr), .int (iZ sl), .int (iZ sp), .int (iZ sr), .int (iZ sb)]))] := hD
        refine lv_iconst (v := iZ (0)) hx hb d_D_square_74 rfl ?_
        refine lv_istore (lv' := [(6, .int (iZ 0)), (0, .ref hx_), (1, .int (iZ x)), (2, .int (iZ y)), (3, .int (iZ sn)), (4, .int (iZ m_)), (5, .int (iZ qr))]) hx hb d_D_square_75 hl (by decide) rfl (fun ls hl => ?_)
        refine lv_iconst (v := iZ (0)) hx hb d_D_square_77 rfl ?_
        refine lv_istore (lv' := [(7, .int (iZ 0)), (6, .int (iZ 0)), (0, .ref hx_), (1, .int (iZ x)), (2, .int (iZ y)), (3, .int (iZ sn)), (4, .int (iZ m_)), (5, .int (iZ qr))]) hx hb d_D_square_78 hl (by decide) rfl (fun ls hl => ?_)
        have LP_80 : ∀ (n_80 : Nat) (r_ : Int) (dn : Int) (K : Int → Int64) (s1 : Int) (s2 : Int) (s3 : Int) (s4 : Int), (0 ≤ r_) → (r_ ≤ sn) → (acI w h mn (sqP dr qr x y sn m_ r_ 0) pic K dn) → (sn - r_).toNat < n_80 → ∀ (H : Heap) (locs : List Loc), va_P (dC, dI) vwCl [(hx_, .inr (4, [.ref hp, .ref hst, .ref hd, .ref hfa])), (hp, .inr (2, [.int (iZ w), .int (iZ h), .int (iZ mn), .ref hw, .ref hs, .ref hk])), (hw, .inl (cL, 16384, .inr (.inl (aL K)))), (hd, .inr (0, [.int (iZ n), .ref hy])), (hy, .inl (cB, 4096, .inl (aI Y))), (hst, .inr (3, [.ref hp, .int (iZ x), .int (iZ y), .int (iZ qr), .int (iZ s1), .int (iZ s2), .int (iZ s3), .int (iZ s4)]))] H → va_D A [(hx_, .inr (4, [.ref hp, .ref hst, .ref hd, .ref hfa])), (hp, .inr (2, [.int (iZ w), .int (iZ h), .int (iZ mn), .ref hw, .ref hs, .ref hk])), (hw, .inl (cL, 16384, .inr (.inl (aL K)))), (hd, .inr (0, [.int (iZ n), .ref hy])), (hy, .inl (cB, 4096, .inl (aI Y))), (hst, .inr (3, [.ref hp, .int (iZ x), .int (iZ y), .int (iZ qr), .int (iZ s1), .int (iZ s2), .int (iZ s3), .int (iZ s4)]))] → va_S A s.heap H locs → ∀ (ls : Array Slot), lv_has ls 9 [(0, .ref hx_), (1, .int (iZ x)), (2, .int (iZ y)), (3, .int (iZ sn)), (4, .int (iZ m_)), (5, .int (iZ qr)), (6, .int (iZ dn)), (7, .int (iZ r_))] → W p l e ({ frames := 8, cells := 3, slots := 18, locals := 142 } : Room) s m ([.ref hx_, .int (iZ x), .int (iZ y), .int (iZ sn), .int (iZ m_), .int (iZ qr)] : List Value).toArray below meth c H locs 2 12 (vx_MQ below (va_Qi (fun (r : Int32) (u : (Int → Int64) × Int × Int × Int × Int) => r = iZ (cnt w h (sqB dr qr x y sn m_)) ∧ (-4096 ≤ x ∧ x ≤ 4096 ∧ -4096 ≤ y ∧ y ≤ 4096 ∧ 0 ≤ qr ∧ qr ≤ 3 ∧ 1 ≤ sn ∧ sn ≤ 177 ∧ 1 ≤ m_ ∧ m_ ≤ 50 ∧ sn * sn ≤ 8 * n) ∧ Rep u.1 (drw mn (fun px py => onB w h px py && sqB dr qr x y sn m_ px py) pic)) (fun u => zB (dC, dI) vwCl [(cL, .long), (cB, .byte)] A [(hx_, .inr (4, [.ref hp, .ref hst, .ref hd, .ref hfa])), (hp, .inr (2, [.int (iZ w), .int (iZ h), .int (iZ mn), .ref hw, .ref hs, .ref hk])), (hw, .inl (cL, 16384, .inr (.inl (aL u.1)))), (hd, .inr (0, [.int (iZ n), .ref hy])), (hy, .inl (cB, 4096, .inl (aI Y))), (hst, .inr (3, [.ref hp, .int (iZ x), .int (iZ y), .int (iZ qr), .int (iZ u.2.1), .int (iZ u.2.2.1), .int (iZ u.2.2.2.1), .int (iZ u.2.2.2.2)]))]) A) (zX (fun E => (E = "java/lang/IllegalArgumentException" ∧ ¬ (-4096 ≤ x ∧ x ≤ 4096 ∧ -4096 ≤ y ∧ y ≤ 4096 ∧ 0 ≤ qr ∧ qr ≤ 3 ∧ 1 ≤ sn ∧ sn ≤ 177 ∧ 1 ≤ m_ ∧ m_ ≤ 50)) ∨ (E = "java/lang/IllegalStateException" ∧ (-4096 ≤ x ∧ x ≤ 4096 ∧ -4096 ≤ y ∧ y ≤ 4096 ∧ 0 ≤ qr ∧ qr ≤ 3 ∧ 1 ≤ sn ∧ sn ≤ 177 ∧ 1 ≤ m_ ∧ m_ ≤ 50) ∧ 8 * n < sn * sn)) (dC, dI) vwCl [(cL, .long), (cB, .byte)] A [(hx_, .inr (4, [.ref hp, .ref hst, .ref hd, .ref hfa])), (hp, .inr (2, [.int (iZ w), .int (iZ h), .int (iZ mn), .ref hw, .ref hs, .ref hk])), (hw, .inl (cL, 16384, .inr (.inl (aL G)))), (hd, .inr (0, [.int (iZ n), .ref hy])), (hy, .inl (cB, 4096, .inl (aI Y))), (hst, .inr (3, [.ref hp, .int (iZ sx), .int (iZ sy), .int (iZ sq), .int (iZ sl), .int (iZ sp), .int (iZ sr), .int (iZ sb)]))]) ([.ref hx_, .int (iZ x), .int (iZ y), .int (iZ sn), .int (iZ m_), .int (iZ qr)] : List Value).toArray s 3 18 A) (F0 m 80 ls []) := by
          intro n_80
          induction n_80 with
          | zero => intro r_ dn K s1 s2 s3 s4 i1 i2 i3 hm; exact absurd hm (by omega)
          | succ n_80 ih_80 =>
            intro r_ dn K s1 s2 s3 s4 i1 i2 i3 hm_80 H locs hP hD hS ls hl
            refine lv_iload hx hb d_D_square_80 (lv_at hl 7 rfl) ?_
            refine lv_iload_n hx hb d_D_square_82 rfl (lv_at hl 3 rfl) ?_
            refine zi_ge (tgt := 150) hx hb d_D_square_83 (by decide) (by omega) (by omega) (by omega) (by omega) (fun c_83 => ?_) (fun c_83 => ?_)
            · refine lv_iload hx hb d_D_square_150 (lv_at hl 6 rfl) ?_
              refine vx_ret ?_
              refine W.widen (k := 3) (n := 18) (Nat.le_of_ble_eq_true rfl) (Nat.le_of_ble_eq_true rfl) ?_
              exact W.iret hx hb hr (fun t ht hW => ⟨⟨_, ((K, s1, s2, s3, s4)), rfl, ⟨congrArg iZ (ac_ext i3 (fun px py _ => sq_end (by omega) px py)).2, by omega, (ac_ext i3 (fun px py _ => sq_end (by omega) px py)).1⟩, by rw [ht]; exact hP, va_K.moved hW.alike hK, hD⟩, hS.F ht⟩) hS.2.2 d_D_square_152
            · refine lv_iconst (v := iZ (0)) hx hb d_D_square_86 rfl ?_
              refine lv_istore (lv' := [(8, .int (iZ 0)), (0, .ref hx_), (1, .int (iZ x)), (2, .int (iZ y)), (3, .int (iZ sn)), (4, .int (iZ m_)), (5, .int (iZ qr)), (6, .int (iZ dn)), (7, .int (iZ r_))]) hx hb d_D_square_87 hl (by decide) rfl (fun ls hl => ?_)
              have LP_89 : ∀ (n_89 : Nat) (c_ : Int) (dn2 : Int) (K2 : Int → Int64) (s1b : Int) (s2b : Int) (s3b : Int) (s4b : Int), (0 ≤ c_) → (c_ ≤ sn) → (acI w h mn (sqP dr qr x y sn m_ r_ c_) pic K2 dn2) → (sn - c_).toNat < n_89 → ∀ (H : Heap) (locs : List Loc), va_P (dC, dI) vwCl [(hx_, .inr (4, [.ref hp, .ref hst, .ref hd, .ref hfa])), (hp, .inr (2, [.int (iZ w), .int (iZ h), .int (iZ mn), .ref hw, .ref hs, .ref hk])), (hw, .inl (cL, 16384, .inr (.inl (aL K2)))), (hd, .inr (0, [.int (iZ n), .ref hy])), (hy, .inl (cB, 4096, .inl (aI Y))), (hst, .inr (3, [.ref hp, .int (iZ x), .int (iZ y), .int (iZ qr), .int (iZ s1b), .int (iZ s2b), .int (iZ s3b), .int (iZ s4b)]))] H → va_D A [(hx_, .inr (4, [.ref hp, .ref hst, .ref hd, .ref hfa])), (hp, .inr (2, [.int (iZ w), .int (iZ h), .int (iZ mn), .ref hw, .ref hs, .ref hk])), (hw, .inl (cL, 16384, .inr (.inl (aL K2)))), (hd, .inr (0, [.int (iZ n), .ref hy])), (hy, .inl (cB, 4096, .inl (aI Y))), (hst, .inr (3, [.ref hp, .int (iZ x), .int (iZ y), .int (iZ qr), .int (iZ s1b), .int (iZ s2b), .int (iZ s3b), .int (iZ s4b)]))] → va_S A s.heap H locs → ∀ (ls : Array Slot), lv_has ls 9 [(0, .ref hx_), (1, .int (iZ x)), (2, .int (iZ y)), (3, .int (iZ sn)), (4, .int (iZ m_)), (5, .int (iZ qr)), (6, .int (iZ dn2)), (7, .int (iZ r_)), (8, .int (iZ c_))] → W p l e ({ frames := 8, cells := 3, slots := 18, locals := 142 } : Room) s m ([.ref hx_, .int (iZ x), .int (iZ y), .int (iZ sn), .int (iZ m_), .int (iZ qr)] : List Value).toArray below meth c H locs 2 12 (vx_MQ below (va_Qi (fun (r : Int32) (u : (Int → Int64) × Int × Int × Int × Int) => r = iZ (cnt w h (sqB dr qr x y sn m_)) ∧ (-4096 ≤ x ∧ x ≤ 4096 ∧ -4096 ≤ y ∧ y ≤ 4096 ∧ 0 ≤ qr ∧ qr ≤ 3 ∧ 1 ≤ sn ∧ sn ≤ 177 ∧ 1 ≤ m_ ∧ m_ ≤ 50 ∧ sn * sn ≤ 8 * n) ∧ Rep u.1 (drw mn (fun px py => onB w h px py && sqB dr qr x y sn m_ px py) pic)) (fun u => zB (dC, dI) vwCl [(cL, .long), (cB, .byte)] A [(hx_, .inr (4, [.ref hp, .ref hst, .ref hd, .ref hfa])), (hp, .inr (2, [.int (iZ w), .int (iZ h), .int (iZ mn), .ref hw, .ref hs, .ref hk])), (hw, .inl (cL, 16384, .inr (.inl (aL u.1)))), (hd, .inr (0, [.int (iZ n), .ref hy])), (hy, .inl (cB, 4096, .inl (aI Y))), (hst, .inr (3, [.ref hp, .int (iZ x), .int (iZ y), .int (iZ qr), .int (iZ u.2.1), .int (iZ u.2.2.1), .int (iZ u.2.2.2.1), .int (iZ u.2.2.2.2)]))]) A) (zX (fun E => (E = "java/lang/IllegalArgumentException" ∧ ¬ (-4096 ≤ x ∧ x ≤ 4096 ∧ -4096 ≤ y ∧ y ≤ 4096 ∧ 0 ≤ qr ∧ qr ≤ 3 ∧ 1 ≤ sn ∧ sn ≤ 177 ∧ 1 ≤ m_ ∧ m_ ≤ 50)) ∨ (E = "java/lang/IllegalStateException" ∧ (-4096 ≤ x ∧ x ≤ 4096 ∧ -4096 ≤ y ∧ y ≤ 4096 ∧ 0 ≤ qr ∧ qr ≤ 3 ∧ 1 ≤ sn ∧ sn ≤ 177 ∧ 1 ≤ m_ ∧ m_ ≤ 50) ∧ 8 * n < sn * sn)) (dC, dI) vwCl [(cL, .long), (cB, .byte)] A [(hx_, .inr (4, [.ref hp, .ref hst, .ref hd, .ref hfa])), (hp, .inr (2, [.int (iZ w), .int (iZ h), .int (iZ mn), .ref hw, .ref hs, .ref hk])), (hw, .inl (cL, 16384, .inr (.inl (aL G)))), (hd, .inr (0, [.int (iZ n), .ref hy])), (hy, .inl (cB, 4096, .inl (aI Y))), (hst, .inr (3, [.ref hp, .int (iZ sx), .int (iZ sy), .int (iZ sq), .int (iZ sl), .int (iZ sp), .int (iZ sr), .int (iZ sb)]))]) ([.ref hx_, .int (iZ x), .int (iZ y), .int (iZ sn), .int (iZ m_), .int (iZ qr)] : List Value).toArray s 3 18 A) (F0 m 89 ls []) := by
                intro n_89
                induction n_89 with
                | zero => intro c_ dn2 K2 s1b s2b s3b s4b j1 j2 j3 hm; exact absurd hm (by omega)
                | succ n_89 ih_89 =>
                  intro c_ dn2 K2 s1b s2b s3b s4b j1 j2 j3 hm_89 H locs hP hD hS ls hl
                  have j3b := j3.1
                  refine lv_iload hx hb d_D_square_89 (lv_at hl 8 rfl) ?_
                  refine lv_iload_n hx hb d_D_square_91 rfl (lv_at hl 3 rfl) ?_
                  refine zi_ge (tgt := 144) hx hb d_D_square_92 (by decide) (by omega) (by omega) (by omega) (by omega) (fun c_92 => ?_) (fun c_92 => ?_)
                  · refine lv_iinc (v := iZ (r_ + 1)) (lv' := [(7, .int (iZ (r_ + 1))), (0, .ref hx_), (1, .int (iZ x)), (2, .int (iZ y)), (3, .int (iZ sn)), (4, .int (iZ m_)), (5, .int (iZ qr)), (6, .int (iZ dn2)), (8, .int (iZ c_))]) hx hb d_D_square_144 hl (k := 7) rfl (iZ_add _ _) (by decide) rfl (fun ls hl => ?_)
                    refine lv_goto (tgt := 80) hx hb d_D_square_147 (by decide) ?_
                    exact ih_80 (r_ + 1) dn2 K2 s1b s2b s3b s4b (by omega) (by omega) (ac_ext j3 (fun px py _ => by rw [show c_ = sn by omega]; exact sq_row (by omega) px py)) (by omega) _ _ hP hD hS ls (lv_sub hl [1, 2, 3, 4, 5, 6, 7, 0] rfl)
                  · have ix9 := sq_ix (c := c_) (r := r_) (k := n) (by omega) (by omega) (by omega) (by omega) (by omega)
                    refine lv_aload_n hx hb d_D_square_95 rfl (lv_at hl 0 rfl) ?_
                    refine va_get (D := (dC, dI)) (ci := 4) (v := .ref hd) (C := R_D) (T := T_D) (N := 4) hx hb hts wi_D hown hK hP 0 rfl rfl 2 (by decide) (hts _ t_128) (fun _ h9 => h9) rfl d_D_square_96 ?_
                    refine lv_iload_n hx hb d_D_square_99 rfl (lv_at hl 3 rfl) ?_
                    refine lv_iload hx hb d_D_square_100 (lv_at hl 7 rfl) ?_
                    refine zi_mul hx hb d_D_square_102 ?_
                    refine lv_iload hx hb d_D_square_103 (lv_at hl 8 rfl) ?_
                    refine zi_add hx hb d_D_square_105 ?_
                    refine vp_callSi (va_runV (As := [.int (iZ ((sn * r_) + c_))]) (rest := []) ⟨hx, hb, hml, hown, hts⟩ (c_Draft_hasBit l dC dI hd hy cB n Y dr ((sn * r_) + c_) (by first | omega | assumption) (by first | omega | assumption) (by first | omega | assumption) (ix9.1) (ix9.2)) (cwV 1 hts (gV t_541 t_542 t_543 t_4 t_544) rfl rfl rfl (by decide +kernel) ⟨Nat.le_of_ble_eq_true rfl, Nat.le_of_ble_eq_true rfl⟩) ⟨zPr_blind, va_recv hK hP (ci := 0) (q0 := 3) rfl rfl, zPr_pre hP hK [3, 4] [1] rfl rfl⟩ rfl rfl hl.1 rfl (lv_room (Nat.le_of_ble_eq_true rfl)) d_D_square_106 ⟨Nat.le_of_ble_eq_true rfl, Nat.le_of_ble_eq_true rfl⟩).run (fun r_106 q_106 => ?_)
                    obtain rfl := q_106
                    refine zb_if_eq (tgt := 138) hx hb d_D_square_109 (by decide) (fun c_109 => ?_) (fun c_109 => ?_)
                    · refine lv_iinc (v := iZ (c_ + 1)) (lv' := [(8, .int (iZ (c_ + 1))), (0, .ref hx_), (1, .int (iZ x)), (2, .int (iZ y)), (3, .int (iZ sn)), (4, .int (iZ m_)), (5, .int (iZ qr)), (6, .int (iZ dn2)), (7, .int (iZ r_))]) hx hb d_D_square_138 hl (k := 8) rfl (iZ_add _ _) (by decide) rfl (fun ls hl => ?_)
                      refine lv_goto (tgt := 89) hx hb d_D_square_141 (by decide) ?_
                      exact ih_89 (c_ + 1) dn2 K2 s1b s2b s3b s4b (by omega) (by omega) (by first | exact ac_ext j3 (fun px py _ => sq_no c_109 px py) | (rw [e_v6_136]; exact ac_step j3 q_132 (fun px py => sq_d (by omega) px py) (fun px py => sq_yes (by omega) (by omega) (by omega) (by omega) (by omega) c_109 px py))) (by omega) _ _ hP hD hS ls (lv_sub hl [1, 2, 3, 4, 5, 6, 7, 8, 0] rfl)
                    · have ma9 := mul_in (m := m_) (c := c_) (M := 50) (C := 177) (by omega) (by omega) (by omega) (by omega)
                      have mb9 := mul_in (m := m_) (c := r_) (M := 50) (C := 177) (by omega) (by omega) (by omega) (by omega)
                      refine lv_iload hx hb d_D_square_112 (lv_at hl 6 rfl) ?_
                      refine lv_aload_n hx hb d_D_square_114 rfl (lv_at hl 0 rfl) ?_
                      refine va_get (D := (dC, dI)) (ci := 4) (v := .ref hst) (C := R_D) (T := T_D) (N := 4) hx hb hts wi_D hown hK hP 0 rfl rfl 1 (by decide) (hts _ t_127) (fun _ h9 => h9) rfl d_D_square_115 ?_
                      refine lv_iload hx hb d_D_square_118 (lv_at hl 4 rfl) ?_
                      refine lv_iload hx hb d_D_square_120 (lv_at hl 8 rfl) ?_
                      refine zi_mul hx hb d_D_square_122 ?_
                      refine lv_iload hx hb d_D_square_123 (lv_at hl 4 rfl) ?_
                      refine lv_iload hx hb d_D_square_125 (lv_at hl 7 rfl) ?_
                      refine zi_mul hx hb d_D_square_127 ?_
                      refine lv_iload hx hb d_D_square_128 (lv_at hl 4 rfl) ?_
                      refine lv_iload hx hb d_D_square_130 (lv_at hl 4 rfl) ?_
                      refine zc_i (w1 := fun (u_132 : (Int → Int64) × Int × Int × Int × Int) => [(hst, .inr (3, [.ref hp, .int (iZ x), .int (iZ y), .int (iZ qr), .int (iZ u_132.2.1), .int (iZ u_132.2.2.1), .int (iZ u_132.2.2.2.1), .int (iZ u_132.2.2.2.2)])), (hp, .inr (2, [.int (iZ w), .int (iZ h), .int (iZ mn), .ref hw, .ref hs, .ref hk])), (hw, .inl (cL, 16384, .inr (.inl (aL u_132.1))))]) (wr := [(hx_, .inr (4, [.ref hp, .ref hst, .ref hd, .ref hfa])), (hd, .inr (0, [.int (iZ n), .ref hy])), (hy, .inl (cB, 4096, .inl (aI Y)))]) (va_runV (As := [.int (iZ (m_ * c_)), .int (iZ (m_ * r_)), .int (iZ m_), .int (iZ m_)]) (rest := [.int (iZ dn2)]) ⟨hx, hb, hml, hown, hts⟩ (c_Steps_drawBlock l dC dI hst hp x y qr s1b s2b s3b s4b hw hs hk cL w h mn K2 (drw mn (fun px py => onB w h px py && sqP dr qr x y sn m_ r_ c_ px py) pic) (m_ * c_) (m_ * r_) m_ m_ H.size (by first | omega | assumption) (by first | omega | assumption) (by first | omega | assumption) (by first | omega | assumption) (by first | omega | assumption) (by first | omega | assumption) (by first | omega | assumption) (by first | omega | assumption) (by first | omega | assumption) (by first | omega | assumption) (by first | omega | assumption) (by first | omega | assumption) (by first | omega | assumption) (by first | omega | assumption) (by first | omega | assumption) (by first | omega | assumption) (by first | omega | assumption) (by first | omega | assumption) (by first | omega | assumption) (by first | omega | assumption) (by first | omega | assumption)) (cwV 4 hts (gV t_505 t_506 t_507 t_3 t_508) rfl rfl rfl (by decide +kernel) ⟨Nat.le_of_ble_eq_true rfl, Nat.le_of_ble_eq_true rfl⟩) ⟨zPm_blind, va_recv hK hP (ci := 3) (q0 := 5) rfl rfl, zPm_pre hP hD hK [5, 1, 2] [0] rfl rfl rfl rfl⟩ rfl rfl hl.1 rfl (lv_room (Nat.le_of_ble_eq_true rfl)) d_D_square_132 ⟨Nat.le_of_ble_eq_true rfl, Nat.le_of_ble_eq_true rfl⟩) hP hD hS hA [5, 1, 2] [0, 3, 4] rfl rfl rfl (by decide) (fun r_132 u_132 H locs q_132 hP hD hS => ?_)
                      have hP : va_P (dC, dI) vwCl [(hx_, .inr (4, [.ref hp, .ref hst, .ref hd, .ref hfa])), (hd, .inr (0, [.int (iZ n), .ref hy])), (hy, .inl (cB, 4096, .inl (aI Y))), (hst, .inr (3, [.ref hp, .int (iZ x), .int (iZ y), .int (iZ qr), .int (iZ u_132.2.1), .int (iZ u_132.2.2.1), .int (iZ u_132.2.2.2.1), .int (iZ u_132.2.2.2.2)])), (hp, .inr (2, [.int (iZ w), .int (iZ h), .int (iZ mn), .ref hw, .ref hs, .ref hk])), (hw, .inl (cL, 16384, .inr (.inl (aL u_132.1))))] H := hP
                      have hD : va_D A [(hx_, .inr (4, [.ref hp, .ref hst, .ref hd, .ref hfa])), (hd, .inr (0, [.int (iZ n), .ref hy])), (hy, .inl (cB, 4096, .inl (aI Y))), (hst, .inr (3, [.ref hp, .int (iZ x), .int (iZ y), .int (iZ qr), .int (iZ u_132.2.1), .int (iZ u_132.2.2.1), .int (iZ u_132.2.2.2.1), .int (iZ u_132.2.2.2.2)])), (hp, .inr (2, [.int (iZ w), .int (iZ h), .int (iZ mn), .ref hw, .ref hs, .ref hk])), (hw, .inl (cL, 16384, .inr (.inl (aL u_132.1))))] := hD
                      obtain ⟨rfl, q_132⟩ := q_132
                      refine zi_add hx hb d_D_square_135 ?_
                      refine zn_z (fun v6_136 e_v6_136 => ?_)
                      refine lv_istore (lv' := [(6, .int (iZ v6_136)), (0, .ref hx_), (1, .int (iZ x)), (2, .int (iZ y)), (3, .int (iZ sn)), (4, .int (iZ m_)), (5, .int (iZ qr)), (7, .int (iZ r_)), (8, .int (iZ c_))]) hx hb d_D_square_136 hl (by decide) rfl (fun ls hl => ?_)
                      refine lv_iinc (v := iZ (c_ + 1)) (lv' := [(8, .int (iZ (c_ + 1))), (6, .int (iZ v6_136)), (0, .ref hx_), (1, .int (iZ x)), (2, .int (iZ y)), (3, .int (iZ sn)), (4, .int (iZ m_)), (5, .int (iZ qr)), (7, .int (iZ r_))]) hx hb d_D_square_138 hl (k := 8) rfl (iZ_add _ _) (by decide) rfl (fun ls hl => ?_)
                      refine lv_goto (tgt := 89) hx hb d_D_square_141 (by decide) ?_
                      exact ih_89 (c_ + 1) v6_136 u_132.1 u_132.2.1 u_132.2.2.1 u_132.2.2.2.1 u_132.2.2.2.2 (by omega) (by omega) (by first | exact ac_ext j3 (fun px py _ => sq_no c_109 px py) | (rw [e_v6_136]; exact ac_step j3 q_132 (fun px py => sq_d (by omega) px py) (fun px py => sq_yes (by omega) (by omega) (by omega) (by omega) (by omega) c_109 px py))) (by omega) _ _ (hP.sub (ws' := [(hx_, .inr (4, [.ref hp, .ref hst, .ref hd, .ref hfa])), (hp, .inr (2, [.int (iZ w), .int (iZ h), .int (iZ mn), .ref hw, .ref hs, .ref hk])), (hw, .inl (cL, 16384, .inr (.inl (aL u_132.1)))), (hd, .inr (0, [.int (iZ n), .ref hy])), (hy, .inl (cB, 4096, .inl (aI Y))), (hst, .inr (3, [.ref hp, .int (iZ x), .int (iZ y), .int (iZ qr), .int (iZ u_132.2.1), .int (iZ u_132.2.2.1), .int (iZ u_132.2.2.2.1), .int (iZ u_132.2.2.2.2)]))]) [0, 4, 5, 1, 2, 3] rfl) (hD.sub (ws' := [(hx_, .inr (4, [.ref hp, .ref hst, .ref hd, .ref hfa])), (hp, .inr (2, [.int (iZ w), .int (iZ h), .int (iZ mn), .ref hw, .ref hs, .ref hk])), (hw, .inl (cL, 16384, .inr (.inl (aL u_132.1)))), (hd, .inr (0, [.int (iZ n), .ref hy])), (hy, .inl (cB, 4096, .inl (aI Y))), (hst, .inr (3, [.ref hp, .int (iZ x), .int (iZ y), .int (iZ qr), .int (iZ u_132.2.1), .int (iZ u_132.2.2.1), .int (iZ u_132.2.2.2.1), .int (iZ u_132.2.2.2.2)]))]) [0, 4, 5, 1, 2, 3] (by decide) rfl) hS ls (lv_sub hl [2, 3, 4, 5, 6, 7, 1, 8, 0] rfl)
              exact LP_89 _ 0 dn K s1 s2 s3 s4 (by omega) (by omega) (i3) (Nat.lt_succ_self _) _ _ hP hD hS ls (lv_sub hl [1, 2, 3, 4, 5, 6, 7, 8, 0] rfl)
        exact LP_80 _ 0 0 G sl sp sr sb (by omega) (by omega) (ac_0 hR (fun px py => sq_0 (by omega) px py)) (Nat.lt_succ_self _) _ _ hP hD hS ls (lv_sub hl [2, 3, 4, 5, 6, 7, 1, 0] rfl)
      · exact vx_throwS (own := R_D) (cls := "java/lang/IllegalStateException") (text := "the draft has too few bits") (names := ["java/lang/RuntimeException", "java/lang/Exception"]) (A := A) hx hb hnt hown rfl (by decide +kernel) (hts _ t_525) (hts _ t_16) (hXK.2.1 2 _ rfl) (vx_hat (fun w9 h9 => hts w9 (xg_168 w9 h9)) xb_168 (fun w9 h9 => va_Nw.use (xb_ot w9 h9) (hXK.1 w9 h9))) xo_168 hXK.2.2.1 hXK.2.2.2 hS (hl.1.trans hml.symm) d_D_square_53 d_D_square_56 d_D_square_57 d_D_square_59 d_D_square_62 (fun x9 h9 => (noEx x9 h9).elim) (Nat.lt_of_lt_of_le (Nat.lt_succ_self _) (Nat.le_of_ble_eq_true rfl)) (Nat.le_of_ble_eq_true rfl) (Nat.le_of_ble_eq_true rfl) (Nat.le_of_ble_eq_true rfl) hlocks (fun t ha hz hk => ⟨(), trivial, ⟨Or.inr ⟨rfl, by omega, by omega⟩, zX_P hP hk, va_K.moved ha hK, hD⟩, hS.trans hz hk⟩) hS.2.2 (Nat.le_of_ble_eq_true rfl) (Nat.le_of_ble_eq_true rfl)
theorem d_D_bars_0 : decode c_yD_bars 0 = .ok (.iload_n 1, 1) := by decide +kernel
theorem d_D_bars_1 : decode c_yD_bars 1 = .ok (.iload_n 2, 1) := by decide +kernel
theorem d_D_bars_2 : decode c_yD_bars 2 = .ok (.iload 5, 2) := by decide +kernel
theorem d_D_bars_4 : decode c_yD_bars 4 = .ok (.invokestatic 134, 3) := by decide +kernel
theorem d_D_bars_7 : decode c_yD_bars 7 = .ok (.iload_n 3, 1) := by decide +kernel
theorem d_D_bars_8 : decode c_yD_bars 8 = .ok (.invokestatic 158, 3) := by decide +kernel
theorem d_D_bars_11 : decode c_yD_bars 11 = .ok (.ifCond .eq 18, 3) := by decide +kernel
theorem d_D_bars_14 : decode c_yD_bars 14 = .ok (.iload 4, 2) := by decide +kernel
theorem d_D_bars_16 : decode c_yD_bars 16 = .ok (.iconst 1, 1) := by decide +kernel
theorem d_D_bars_17 : decode c_yD_bars 17 = .ok (.bipush 50, 2) := by decide +kernel
theorem d_D_bars_19 : decode c_yD_bars 19 = .ok (.invokestatic 39, 3) := by decide +kernel
theorem d_D_bars_22 : decode c_yD_bars 22 = .ok (.ifCond .eq 7, 3) := by decide +kernel
theorem d_D_bars_25 : decode c_yD_bars 25 = .ok (.iconst 1, 1) := by decide +kernel
theorem d_D_bars_26 : decode c_yD_bars 26 = .ok (.goto 4, 3) := by decide +kernel
theorem d_D_bars_29 : decode c_yD_bars 29 = .ok (.iconst 0, 1) := by decide +kernel
theorem d_D_bars_30 : decode c_yD_bars 30 = .ok (.invokestatic 43, 3) := by decide +kernel
theorem d_D_bars_33 : decode c_yD_bars 33 = .ok (.aload_n 0, 1) := by decide +kernel
theorem d_D_bars_34 : decode c_yD_bars 34 = .ok (.getfield 21, 3) := by decide +kernel
theorem d_D_bars_37 : decode c_yD_bars 37 = .ok (.iload_n 1, 1) := by decide +kernel
theorem d_D_bars_38 : decode c_yD_bars 38 = .ok (.iload_n 2, 1) := by decide +kernel
theorem d_D_bars_39 : decode c_yD_bars 39 = .ok (.iload 5, 2) := by decide +kernel
theorem d_D_bars_41 : decode c_yD_bars 41 = .ok (.invokevirtual 137, 3) := by decide +kernel
theorem d_D_bars_44 : decode c_yD_bars 44 = .ok (.iconst 0, 1) := by decide +kernel
theorem d_D_bars_45 : decode c_yD_bars 45 = .ok (.istore 6, 2) := by decide +kernel
theorem d_D_bars_47 : decode c_yD_bars 47 = .ok (.iconst 0, 1) := by decide +kernel
theorem d_D_bars_48 : decode c_yD_bars 48 = .ok (.istore 7, 2) := by decide +kernel
theorem d_D_bars_50 : decode c_yD_bars 50 = .ok (.iconst 0, 1) := by decide +kernel
theorem d_D_bars_51 : decode c_yD_bars 51 = .ok (.istore 8, 2) := by decide +kernel
theorem d_D_bars_53 : decode c_yD_bars 53 = .ok (.iload 8, 2) := by decide +kernel
theorem d_D_bars_55 : decode c_yD_bars 55 = .ok (.aload_n 0, 1) := by decide +kernel
theorem d_D_bars_56 : decode c_yD_bars 56 = .ok (.getfield 28, 3) := by decide +kernel
theorem d_D_bars_59 : decode c_yD_bars 59 = .ok (.getfield 59, 3) := by decide +kernel
theorem d_D_bars_62 : decode c_yD_bars 62 = .ok (.if_icmp .ge 55, 3) := by decide +kernel
theorem d_D_bars_65 : decode c_yD_bars 65 = .ok (.iload 4, 2) := by decide +kernel
theorem d_D_bars_67 : decode c_yD_bars 67 = .ok (.aload_n 0, 1) := by decide +kernel
theorem d_D_bars_68 : decode c_yD_bars 68 = .ok (.getfield 28, 3) := by decide +kernel
theorem d_D_bars_71 : decode c_yD_bars 71 = .ok (.iload 8, 2) := by decide +kernel
theorem d_D_bars_73 : decode c_yD_bars 73 = .ok (.invokevirtual 150, 3) := by decide +kernel
theorem d_D_bars_76 : decode c_yD_bars 76 = .ok (.imul, 1) := by decide +kernel
theorem d_D_bars_77 : decode c_yD_bars 77 = .ok (.istore 9, 2) := by decide +kernel
theorem d_D_bars_79 : decode c_yD_bars 79 = .ok (.iload 8, 2) := by decide +kernel
theorem d_D_bars_81 : decode c_yD_bars 81 = .ok (.iconst 2, 1) := by decide +kernel
theorem d_D_bars_82 : decode c_yD_bars 82 = .ok (.irem, 1) := by decide +kernel
theorem d_D_bars_83 : decode c_yD_bars 83 = .ok (.ifCond .ne 21, 3) := by decide +kernel
theorem d_D_bars_86 : decode c_yD_bars 86 = .ok (.iload 6, 2) := by decide +kernel
theorem d_D_bars_88 : decode c_yD_bars 88 = .ok (.aload_n 0, 1) := by decide +kernel
theorem d_D_bars_89 : decode c_yD_bars 89 = .ok (.getfield 21, 3) := by decide +kernel
theorem d_D_bars_92 : decode c_yD_bars 92 = .ok (.iload 7, 2) := by decide +kernel
theorem d_D_bars_94 : decode c_yD_bars 94 = .ok (.iconst 0, 1) := by decide +kernel
theorem d_D_bars_95 : decode c_yD_bars 95 = .ok (.iload 9, 2) := by decide +kernel
theorem d_D_bars_97 : decode c_yD_bars 97 = .ok (.iload_n 3, 1) := by decide +kernel
theorem d_D_bars_98 : decode c_yD_bars 98 = .ok (.invokevirtual 161, 3) := by decide +kernel
theorem d_D_bars_101 : decode c_yD_bars 101 = .ok (.iadd, 1) := by decide +kernel
theorem d_D_bars_102 : decode c_yD_bars 102 = .ok (.istore 6, 2) := by decide +kernel
theorem d_D_bars_104 : decode c_yD_bars 104 = .ok (.iload 7, 2) := by decide +kernel
theorem d_D_bars_106 : decode c_yD_bars 106 = .ok (.iload 9, 2) := by decide +kernel
theorem d_D_bars_108 : decode c_yD_bars 108 = .ok (.iadd, 1) := by decide +kernel
theorem d_D_bars_109 : decode c_yD_bars 109 = .ok (.istore 7, 2) := by decide +kernel
theorem d_D_bars_111 : decode c_yD_bars 111 = .ok (.iinc 8 1, 3) := by decide +kernel
theorem d_D_bars_114 : decode c_yD_bars 114 = .ok (.goto (-61), 3) := by decide +kernel
theorem d_D_bars_117 : decode c_yD_bars 117 = .ok (.iload 6, 2) := by decide +kernel
theorem d_D_bars_119 : decode c_yD_bars 119 = .ok (.ireturn, 1) := by decide +kernel
set_option maxHeartbeats 4000000 in
set_option maxRecDepth 100000 in
theorem c_DotSheet_bars (l : Launch) (hnt : l.stackTraces = false) (dC : Nat → ClassId) (dI : Nat → Nat → Nat) (sa : Nat → Nat) (hx_ hst hd hfa hp hw hs hk : Nat) (cL : ClassId) (w h mn : Int) (G : Int → Int64) (pic : Int → Int → Bool) (hy : Nat) (cB : ClassId) (n : Int) (Y : Int → Int32) (dr dr0 : Int → Int) (sx sy sq sl sp sr sb x y bh m_ qr : Int) (sz : Nat) (w1 : 1 ≤ w) (w2 : w ≤ 1024) (h1 : 1 ≤ h) (h2 : h ≤ 1024) (mn1 : 0 ≤ mn) (mn2 : mn ≤ 2) (hR : Rep G pic) (n1 : 0 ≤ n) (n2 : n ≤ 4096) (hY : RepD Y n dr) (hd0 : ∀ k, 0 ≤ dr0 k ∧ dr0 k ≤ 255) (hd1 : ∀ k, 0 ≤ k → k < n → dr0 k = dr k) (x1 : -2147483648 ≤ x) (y1 : -2147483648 ≤ y) (bh1 : -2147483648 ≤ bh) (m_1 : -2147483648 ≤ m_) (qr1 : -2147483648 ≤ qr) (x2 : x ≤ 2147483647) (y2 : y ≤ 2147483647) (bh2 : bh ≤ 2147483647) (m_2 : m_ ≤ 2147483647) (qr2 : qr ≤ 2147483647) : vx_Met l y_D_bars w_D_bars ({ frames := 8, cells := 2, slots := 12, locals := 142 }) (va_Pc [.ref hx_, .int (iZ x), .int (iZ y), .int (iZ bh), .int (iZ m_), .int (iZ qr)] (zPx (dC, dI) vwCl [(hx_, .inr (4, [.ref hp, .ref hst, .ref hd, .ref hfa])), (hp, .inr (2, [.int (iZ w), .int (iZ h), .int (iZ mn), .ref hw, .ref hs, .ref hk])), (hw, .inl (cL, 16384, .inr (.inl (aL G)))), (hd, .inr (0, [.int (iZ n), .ref hy])), (hy, .inl (cB, 4096, .inl (aI Y))), (hst, .inr (3, [.ref hp, .int (iZ sx), .int (iZ sy), .int (iZ sq), .int (iZ sl), .int (iZ sp), .int (iZ sr), .int (iZ sb)]))] [(cL, .long), (cB, .byte)] sz sa)) (va_Qi (fun (r : Int32) (u : (Int → Int64) × Int × Int × Int × Int) => r = iZ (cnt w h (baB dr0 qr x y bh m_ n.toNat)) ∧ (-4096 ≤ x ∧ x ≤ 4096 ∧ -4096 ≤ y ∧ y ≤ 4096 ∧ 0 ≤ qr ∧ qr ≤ 3 ∧ 1 ≤ bh ∧ bh ≤ 2048 ∧ 1 ≤ m_ ∧ m_ ≤ 50) ∧ Rep u.1 (drw mn (fun px py => onB w h px py && baB dr0 qr x y bh m_ n.toNat px py) pic)) (fun u => zB (dC, dI) vwCl [(cL, .long), (cB, .byte)] (va_A [(hx_, .inr (4, [.ref hp, .ref hst, .ref hd, .ref hfa])), (hp, .inr (2, [.int (iZ w), .int (iZ h), .int (iZ mn), .ref hw, .ref hs, .ref hk])), (hw, .inl (cL, 16384, .inr (.inl (aL G)))), (hd, .inr (0, [.int (iZ n), .ref hy])), (hy, .inl (cB, 4096, .inl (aI Y))), (hst, .inr (3, [.ref hp, .int (iZ sx), .int (iZ sy), .int (iZ sq), .int (iZ sl), .int (iZ sp), .int (iZ sr), .int (iZ sb)]))] sz) [(hx_, .inr (4, [.ref hp, .ref hst, .ref hd, .ref hfa])), (hp, .inr (2, [.int (iZ w), .int (iZ h), .int (iZ mn), .ref hw, .ref hs, .ref hk])), (hw, .inl (cL, 16384, .inr (.inl (aL u.1)))), (hd, .inr (0, [.int (iZ n), .ref hy])), (hy, .inl (cB, 4096, .inl (aI Y))), (hst, .inr (3, [.ref hp, .int (iZ x), .int (iZ y), .int (iZ qr), .int (iZ u.2.1), .int (iZ u.2.2.1), .int (iZ u.2.2.2.1), .int (iZ u.2.2.2.2)]))]) (va_A [(hx_, .inr (4, [.ref hp, .ref hst, .ref hd, .ref hfa])), (hp, .inr (2, [.int (iZ w), .int (iZ h), .int (iZ mn), .ref hw, .ref hs, .ref hk])), (hw, .inl (cL, 16384, .inr (.inl (aL G)))), (hd, .inr (0, [.int (iZ n), .ref hy])), (hy, .inl (cB, 4096, .inl (aI Y))), (hst, .inr (3, [.ref hp, .int (iZ sx), .int (iZ sy), .int (iZ sq), .int (iZ sl), .int (iZ sp), .int (iZ sr), .int (iZ sb)]))] sz)) (zX (fun E => E = "java/lang/IllegalArgumentException" ∧ ¬ (-4096 ≤ x ∧ x ≤ 4096 ∧ -4096 ≤ y ∧ y ≤ 4096 ∧ 0 ≤ qr ∧ qr ≤ 3 ∧ 1 ≤ bh ∧ bh ≤ 2048 ∧ 1 ≤ m_ ∧ m_ ≤ 50)) (dC, dI) vwCl [(cL, .long), (cB, .byte)] (va_A [(hx_, .inr (4, [.ref hp, .ref hst, .ref hd, .ref hfa])), (hp, .inr (2, [.int (iZ w), .int (iZ h), .int (iZ mn), .ref hw, .ref hs, .ref hk])), (hw, .inl (cL, 16384, .inr (.inl (aL G)))), (hd, .inr (0, [.int (iZ n), .ref hy])), (hy, .inl (cB, 4096, .inl (aI Y))), (hst, .inr (3, [.ref hp, .int (iZ sx), .int (iZ sy), .int (iZ sq), .int (iZ sl), .int (iZ sp), .int (iZ sr), .int (iZ sb)]))] sz) [(hx_, .inr (4, [.ref hp, .ref hst, .ref hd, .ref hfa])), (hp, .inr (2, [.int (iZ w), .int (iZ h), .int (iZ mn), .ref hw, .ref hs, .ref hk])), (hw, .inl (cL, 16384, .inr (.inl (aL G)))), (hd, .inr (0, [.int (iZ n), .ref hy])), (hy, .inl (cB, 4096, .inl (aI Y))), (hst, .inr (3, [.ref hp, .int (iZ sx), .int (iZ sy), .int (iZ sq), .int (iZ sl), .int (iZ sp), .int (iZ sr), .int (iZ sb)]))]) 2 12 (va_A [(hx_, .inr (4, [.ref hp, .ref hst, .ref hd, .ref hfa])), (hp, .inr (2, [.int (iZ w), .int (iZ h), .int (iZ mn), .ref hw, .ref hs, .ref hk])), (hw, .inl (cL, 16384, .inr (.inl (aL G)))), (hd, .inr (0, [.int (iZ n), .ref hy])), (hy, .inl (cB, 4096, .inl (aI Y))), (hst, .inr (3, [.ref hp, .int (iZ sx), .int (iZ sy), .int (iZ sq), .int (iZ sl), .int (iZ sp), .int (iZ sr), .int (iZ sb)]))] sz) := by
  refine vx_ofW (cc := c_yD_bars) (maxL := 10) (ret := (some .int)) (by decide) rfl ?_
  intro p e s m args below meth c s₁ B hml noEx hv
  obtain ⟨rfl, hsz, hP, hK, hD0, hXK⟩ := hv
  have hx := B.exec
  have hb := B.bytes
  have hr := B.returns
  have hts0 := atoms_spec (ws := w_D_bars) B.pre
  have hts : ∀ w ∈ gT, w.before _ s = true := fun w h => hts0 w (List.mem_cons_of_mem _ h)
  have hown : s.vm.findClass R_D = some m.cls := findClass_of_methodNamed B.named
  have hlocks := B.notSynchronized
  subst hsz
  have hD := hD0.self (sz := s.heap.size)
  generalize hAe : va_A [(hx_, .inr (4, [.ref hp, .ref hst, .ref hd, .ref hfa])), (hp, .inr (2, [.int (iZ w), .int (iZ h), .int (iZ mn), .ref hw, .ref hs, .ref hk])), (hw, .inl (cL, 16384, .inr (.inl (aL G)))), (hd, .inr (0, [.int (iZ n), .ref hy])), (hy, .inl (cB, 4096, .inl (aI Y))), (hst, .inr (3, [.ref hp, .int (iZ sx), .int (iZ sy), .int (iZ sq), .int (iZ sl), .int (iZ sp), .int (iZ sr), .int (iZ sb)]))] s.heap.size = A at hD hXK ⊢
  have hA : ∀ q : Nat, s.heap.size ≤ q → A q := fun q h => by rw [← hAe]; exact Or.inr h
  obtain ⟨H, hH⟩ : ∃ H, s.heap = H := ⟨_, rfl⟩
  have hS : va_S A s.heap H [] := by rw [← hH]; exact va_S.rf
  rw [hH] at hP
  rw [hH]
  have hl := lv_entry ([.ref hx_, .int (iZ x), .int (iZ y), .int (iZ bh), .int (iZ m_), .int (iZ qr)]) (n := 10) (Nat.le_of_ble_eq_true rfl)
  rw [lg_entry_eq]
  generalize (lg_sl ([.ref hx_, .int (iZ x), .int (iZ y), .int (iZ bh), .int (iZ m_), .int (iZ qr)]) ++ List.replicate (10 - (lg_sl ([.ref hx_, .int (iZ x), .int (iZ y), .int (iZ bh), .int (iZ m_), .int (iZ qr)])).length) Slot.unset).toArray = ls at hl ⊢
  have hl : lv_has ls 10 [(0, .ref hx_), (1, .int (iZ x)), (2, .int (iZ y)), (3, .int (iZ bh)), (4, .int (iZ m_)), (5, .int (iZ qr))] := hl
  refine lv_iload_n hx hb d_D_bars_0 rfl (lv_at hl 1 rfl) ?_
  refine lv_iload_n hx hb d_D_bars_1 rfl (lv_at hl 2 rfl) ?_
  refine lv_iload hx hb d_D_bars_2 (lv_at hl 5 rfl) ?_
  refine zx_v (w1 := fun (u_4 : Unit) => []) (wr := [(hx_, .inr (4, [.ref hp, .ref hst, .ref hd, .ref hfa])), (hp, .inr (2, [.int (iZ w), .int (iZ h), .int (iZ mn), .ref hw, .ref hs, .ref hk])), (hw, .inl (cL, 16384, .inr (.inl (aL G)))), (hd, .inr (0, [.int (iZ n), .ref hy])), (hy, .inl (cB, 4096, .inl (aI Y))), (hst, .inr (3, [.ref hp, .int (iZ sx), .int (iZ sy), .int (iZ sq), .int (iZ sl), .int (iZ sp), .int (iZ sr), .int (iZ sb)]))]) (vx_runS (As := [.int (iZ x), .int (iZ y), .int (iZ qr)]) (rest := []) ⟨hx, hb, hml, hown, hts⟩ (c_DotSheet_demandCorner l hnt dC dI sa x y qr H.size (by first | omega | assumption) (by first | omega | assumption) (by first | omega | assumption) (by first | omega | assumption) (by first | omega | assumption) (by first | omega | assumption)) (va_cwS 3 hts (gS t_467 t_468 t_1 t_469) rfl rfl rfl (by decide +kernel) ⟨Nat.le_of_ble_eq_true rfl, Nat.le_of_ble_eq_true rfl⟩) ⟨zPx_blind, zPx_pre hP hD hK hXK hS hA [] [] rfl rfl rfl rfl⟩ rfl rfl hl.1 rfl (lv_room (Nat.le_of_ble_eq_true rfl)) d_D_bars_4 ⟨Nat.le_of_ble_eq_true rfl, Nat.le_of_ble_eq_true rfl⟩) hP hD hS hA [] [0, 1, 2, 3, 4, 5] rfl rfl rfl (by decide) (fun E_ ce_ q9_ H locs x_4 hP hD hS hce hcv hcl => ?_) (fun u_4 H locs q_4 hP hD hS => ?_)
  · have hP : va_P (dC, dI) vwCl [(hx_, .inr (4, [.ref hp, .ref hst, .ref hd, .ref hfa])), (hp, .inr (2, [.int (iZ w), .int (iZ h), .int (iZ mn), .ref hw, .ref hs, .ref hk])), (hw, .inl (cL, 16384, .inr (.inl (aL G)))), (hd, .inr (0, [.int (iZ n), .ref hy])), (hy, .inl (cB, 4096, .inl (aI Y))), (hst, .inr (3, [.ref hp, .int (iZ sx), .int (iZ sy), .int (iZ sq), .int (iZ sl), .int (iZ sp), .int (iZ sr), .int (iZ sb)]))] H := hP
    have hD : va_D A [(hx_, .inr (4, [.ref hp, .ref hst, .ref hd, .ref hfa])), (hp, .inr (2, [.int (iZ w), .int (iZ h), .int (iZ mn), .ref hw, .ref hs, .ref hk])), (hw, .inl (cL, 16384, .inr (.inl (aL G)))), (hd, .inr (0, [.int (iZ n), .ref hy])), (hy, .inl (cB, 4096, .inl (aI Y))), (hst, .inr (3, [.ref hp, .int (iZ sx), .int (iZ sy), .int (iZ sq), .int (iZ sl), .int (iZ sp), .int (iZ sr), .int (iZ sb)]))] := hD
    exact vx_out (fun x9 h9 => (noEx x9 h9).elim) hlocks hce hcv hcl (fun t ht ha => ⟨(), trivial, ⟨⟨x_4.1, by have z9 := x_4.2; omega⟩, by rw [ht]; exact hP, va_K.moved ha hK, hD⟩, hS.F ht⟩) hS.2.2 (Nat.le_of_ble_eq_true rfl) (Nat.le_of_ble_eq_true rfl)
  have hP : va_P (dC, dI) vwCl [(hx_, .inr (4, [.ref hp, .ref hst, .ref hd, .ref hfa])), (hp, .inr (2, [.int (iZ w), .int (iZ h), .int (iZ mn), .ref hw, .ref hs, .ref hk])), (hw, .inl (cL, 16384, .inr (.inl (aL G)))), (hd, .inr (0, [.int (iZ n), .ref hy])), (hy, .inl (cB, 4096, .inl (aI Y))), (hst, .inr (3, [.ref hp, .int (iZ sx), .int (iZ sy), .int (iZ sq), .int (iZ sl), .int (iZ sp), .int (iZ sr), .int (iZ sb)]))] H := hP
  have hD : va_D A [(hx_, .inr (4, [.ref hp, .ref hst, .ref hd, .ref hfa])), (hp, .inr (2, [.int (iZ w), .int (iZ h), .int (iZ mn), .ref hw, .ref hs, .ref hk])), (hw, .inl (cL, 16384, .inr (.inl (aL G)))), (hd, .inr (0, [.int (iZ n), .ref hy])), (hy, .inl (cB, 4096, .inl (aI Y))), (hst, .inr (3, [.ref hp, .int (iZ sx), .int (iZ sy), .int (iZ sq), .int (iZ sl), .int (iZ sp), .int (iZ sr), .int (iZ sb)]))] := hD
  refine lv_iload_n hx hb d_D_bars_7 rfl (lv_at hl 3 rfl) ?_
  refine vp_callSi (va_runS (As := [.int (iZ bh)]) (rest := []) ⟨hx, hb, hml, hown, hts⟩ (c_DotSheet_isSize l dC dI bh (by first | omega | assumption) (by first | omega | assumption)) (va_cwS 1 hts (gS t_262 t_263 t_1 t_264) rfl rfl rfl (by decide +kernel) ⟨Nat.le_of_ble_eq_true rfl, Nat.le_of_ble_eq_true rfl⟩) ⟨zPr_blind, zPr_pre hP hK [] [] rfl rfl⟩ rfl rfl hl.1 rfl (lv_room (Nat.le_of_ble_eq_true rfl)) d_D_bars_8 ⟨Nat.le_of_ble_eq_true rfl, Nat.le_of_ble_eq_true rfl⟩).run (fun r_8 q_8 => ?_)
  obtain rfl := q_8
  refine zb_if_eq (tgt := 29) hx hb d_D_bars_11 (by decide) (fun c_11 => ?_) (fun c_11 => ?_)
  · have c_11 := of_decide_eq_false c_11
    refine lv_iconst (v := iZ (0)) hx hb d_D_bars_29 rfl ?_
    refine zx_v (w1 := fun (u_30 : Unit) => []) (wr := [(hx_, .inr (4, [.ref hp, .ref hst, .ref hd, .ref hfa])), (hp, .inr (2, [.int (iZ w), .int (iZ h), .int (iZ mn), .ref hw, .ref hs, .ref hk])), (hw, .inl (cL, 16384, .inr (.inl (aL G)))), (hd, .inr (0, [.int (iZ n), .ref hy])), (hy, .inl (cB, 4096, .inl (aI Y))), (hst, .inr (3, [.ref hp, .int (iZ sx), .int (iZ sy), .int (iZ sq), .int (iZ sl), .int (iZ sp), .int (iZ sr), .int (iZ sb)]))]) (vx_runS (As := [.int (bI false)]) (rest := []) ⟨hx, hb, hml, hown, hts⟩ (c_DotSheet_demand l hnt dC dI sa false H.size ) (va_cwS 1 hts (gS t_154 t_155 t_1 t_156) rfl rfl rfl (by decide +kernel) ⟨Nat.le_of_ble_eq_true rfl, Nat.le_of_ble_eq_true rfl⟩) ⟨zPx_blind, zPx_pre hP hD hK hXK hS hA [] [] rfl rfl rfl rfl⟩ rfl rfl hl.1 rfl (lv_room (Nat.le_of_ble_eq_true rfl)) d_D_bars_30 ⟨Nat.le_of_ble_eq_true rfl, Nat.le_of_ble_eq_true rfl⟩) hP hD hS hA [] [0, 1, 2, 3, 4, 5] rfl rfl rfl (by decide) (fun E_ ce_ q9_ H locs x_30 hP hD hS hce hcv hcl => ?_) (fun u_30 H locs q_30 hP hD hS => ?_)
    · have hP : va_P (dC, dI) vwCl [(hx_, .inr (4, [.ref hp, .ref hst, .ref hd, .ref hfa])), (hp, .inr (2, [.int (iZ w), .int (iZ h), .int (iZ mn), .ref hw, .ref hs, .ref hk])), (hw, .inl (cL, 16384, .inr (.inl (aL G)))), (hd, .inr (0, [.int (iZ n), .ref hy])), (hy, .inl (cB, 4096, .inl (aI Y))), (hst, .inr (3, [.ref hp, .int (iZ sx), .int (iZ sy), .int (iZ sq), .int (iZ sl), .int (iZ sp), .int (iZ sr), .int (iZ sb)]))] H := hP
      have hD : va_D A [(hx_, .inr (4, [.ref hp, .ref hst, .ref hd, .ref hfa])), (hp, .inr (2, [.int (iZ w), .int (iZ h), .int (iZ mn), .ref hw, .ref hs, .ref hk])), (hw, .inl (cL, 16384, .inr (.inl (aL G)))), (hd, .inr (0, [.int (iZ n), .ref hy])), (hy, .inl (cB, 4096, .inl (aI Y))), (hst, .inr (3, [.ref hp, .int (iZ sx), .int (iZ sy), .int (iZ sq), .int (iZ sl), .int (iZ sp), .int (iZ sr), .int (iZ sb)]))] := hD
      exact vx_out (fun x9 h9 => (noEx x9 h9).elim) hlocks hce hcv hcl (fun t ht ha => ⟨(), trivial, ⟨⟨x_30.1, by omega⟩, by rw [ht]; exact hP, va_K.moved ha hK, hD⟩, hS.F ht⟩) hS.2.2 (Nat.le_of_ble_eq_true rfl) (Nat.le_of_ble_eq_true rfl)
    exact absurd q_30 (by decide)
  · have c_11 := of_decide_eq_true c_11
    refine lv_iload hx hb d_D_bars_14 (lv_at hl 4 rfl) ?_
    refine lv_iconst (v := iZ (1)) hx hb d_D_bars_16 rfl ?_
    refine lv_bipush (v := iZ (50)) hx hb d_D_bars_17 (by decide) ?_
    refine vp_callSi (va_runS (As := [.int (iZ m_), .int (iZ 1), .int (iZ 50)]) (rest := []) ⟨hx, hb, hml, hown, hts⟩ (c_DotSheet_isWithin l dC dI m_ 1 50 (by first | omega | assumption) (by first | omega | assumption) (by first | omega | assumption) (by first | omega | assumption) (by first | omega | assumption) (by first | omega | assumption)) (va_cwS 3 hts (gS t_151 t_152 t_1 t_153) rfl rfl rfl (by decide +kernel) ⟨Nat.le_of_ble_eq_true rfl, Nat.le_of_ble_eq_true rfl⟩) ⟨zPr_blind, zPr_pre hP hK [] [] rfl rfl⟩ rfl rfl hl.1 rfl (lv_room (Nat.le_of_ble_eq_true rfl)) d_D_bars_19 ⟨Nat.le_of_ble_eq_true rfl, Nat.le_of_ble_eq_true rfl⟩).run (fun r_19 q_19 => ?_)
    obtain rfl := q_19
    refine zb_if_eq (tgt := 29) hx hb d_D_bars_22 (by decide) (fun c_22 => ?_) (fun c_22 => ?_)
    · have c_22 := of_decide_eq_false c_22
      refine lv_iconst (v := iZ (0)) hx hb d_D_bars_29 rfl ?_
      refine zx_v (w1 := fun (u_30 : Unit) => []) (wr := [(hx_, .inr (4, [.ref hp, .ref hst, .ref hd, .ref hfa])), (hp, .inr (2, [.int (iZ w), .int (iZ h), .int (iZ mn), .ref hw, .ref hs, .ref hk])), (hw, .inl (cL, 16384, .inr (.inl (aL G)))), (hd, .inr (0, [.int (iZ n), .ref hy])), (hy, .inl (cB, 4096, .inl (aI Y))), (hst, .inr (3, [.ref hp, .int (iZ sx), .int (iZ sy), .int (iZ sq), .int (iZ sl), .int (iZ sp), .int (iZ sr), .int (iZ sb)]))]) (vx_runS (As := [.int (bI false)]) (rest := []) ⟨hx, hb, hml, hown, hts⟩ (c_DotSheet_demand l hnt dC dI sa false H.size ) (va_cwS 1 hts (gS t_154 t_155 t_1 t_156) rfl rfl rfl (by decide +kernel) ⟨Nat.le_of_ble_eq_true rfl, Nat.le_of_ble_eq_true rfl⟩) ⟨zPx_blind, zPx_pre hP hD hK hXK hS hA [] [] rfl rfl rfl rfl⟩ rfl rfl hl.1 rfl (lv_room (Nat.le_of_ble_eq_true rfl)) d_D_bars_30 ⟨Nat.le_of_ble_eq_true rfl, Nat.le_of_ble_eq_true rfl⟩) hP hD hS hA [] [0, 1, 2, 3, 4, 5] rfl rfl rfl (by decide) (fun E_ ce_ q9_ H locs x_30 hP hD hS hce hcv hcl => ?_) (fun u_30 H locs q_30 hP hD hS => ?_)
      · have hP : va_P (dC, dI) vwCl [(hx_, .inr (4, [.ref hp, .ref hst, .ref hd, .ref hfa])), (hp, .inr (2, [.int (iZ w), .int (iZ h), .int (iZ mn), .ref hw, .ref hs, .ref hk])), (hw, .inl (cL, 16384, .inr (.inl (aL G)))), (hd, .inr (0, [.int (iZ n), .ref hy])), (hy, .inl (cB, 4096, .inl (aI Y))), (hst, .inr (3, [.ref hp, .int (iZ sx), .int (iZ sy), .int (iZ sq), .int (iZ sl), .int (iZ sp), .int (iZ sr), .int (iZ sb)]))] H := hP
        have hD : va_D A [(hx_, .inr (4, [.ref hp, .ref hst, .ref hd, .ref hfa])), (hp, .inr (2, [.int (iZ w), .int (iZ h), .int (iZ mn), .ref hw, .ref hs, .ref hk])), (hw, .inl (cL, 16384, .inr (.inl (aL G)))), (hd, .inr (0, [.int (iZ n), .ref hy])), (hy, .inl (cB, 4096, .inl (aI Y))), (hst, .inr (3, [.ref hp, .int (iZ sx), .int (iZ sy), .int (iZ sq), .int (iZ sl), .int (iZ sp), .int (iZ sr), .int (iZ sb)]))] := hD
        exact vx_out (fun x9 h9 => (noEx x9 h9).elim) hlocks hce hcv hcl (fun t ht ha => ⟨(), trivial, ⟨⟨x_30.1, by omega⟩, by rw [ht]; exact hP, va_K.moved ha hK, hD⟩, hS.F ht⟩) hS.2.2 (Nat.le_of_ble_eq_true rfl) (Nat.le_of_ble_eq_true rfl)
      exact absurd q_30 (by decide)
    · have c_22 := of_decide_eq_true c_22
      refine lv_iconst (v := iZ (1)) hx hb d_D_bars_25 rfl ?_
      refine lv_goto (tgt := 30) hx hb d_D_bars_26 (by decide) ?_
      refine zx_v (w1 := fun (u_30 : Unit) => []) (wr := [(hx_, .inr (4, [.ref hp, .ref hst, .ref hd, .ref hfa])), (hp, .inr (2, [.int (iZ w), .int (iZ h), .int (iZ mn), .ref hw, .ref hs, .ref hk])), (hw, .inl (cL, 16384, .inr (.inl (aL G)))), (hd, .inr (0, [.int (iZ n), .ref hy])), (hy, .inl (cB, 4096, .inl (aI Y))), (hst, .inr (3, [.ref hp, .int (iZ sx), .int (iZ sy), .int (iZ sq), .int (iZ sl), .int (iZ sp), .int (iZ sr), .int (iZ sb)]))]) (vx_runS (As := [.int (bI true)]) (rest := []) ⟨hx, hb, hml, hown, hts⟩ (c_DotSheet_demand l hnt dC dI sa true H.size ) (va_cwS 1 hts (gS t_154 t_155 t_1 t_156) rfl rfl rfl (by decide +kernel) ⟨Nat.le_of_ble_eq_true rfl, Nat.le_of_ble_eq_true rfl⟩) ⟨zPx_blind, zPx_pre hP hD hK hXK hS hA [] [] rfl rfl rfl rfl⟩ rfl rfl hl.1 rfl (lv_room (Nat.le_of_ble_eq_true rfl)) d_D_bars_30 ⟨Nat.le_of_ble_eq_true rfl, Nat.le_of_ble_eq_true rfl⟩) hP hD hS hA [] [0, 1, 2, 3, 4, 5] rfl rfl rfl (by decide) (fun E_ ce_ q9_ H locs x_30 hP hD hS hce hcv hcl => ?_) (fun u_30 H locs q_30 hP hD hS => ?_)
      · exact absurd x_30.2 (by decide)
      have hP : va_P (dC, dI) vwCl [(hx_, .inr (4, [.ref hp, .ref hst, .ref hd, .ref hfa])), (hp, .inr (2, [.int (iZ w), .int (iZ h), .int (iZ mn), .ref hw, .ref hs, .ref hk])), (hw, .inl (cL, 16384, .inr (.inl (aL G)))), (hd, .inr (0, [.int (iZ n), .ref hy])), (hy, .inl (cB, 4096, .inl (aI Y))), (hst, .inr (3, [.ref hp, .int (iZ sx), .int (iZ sy), .int (iZ sq), .int (iZ sl), .int (iZ sp), .int (iZ sr), .int (iZ sb)]))] H := hP
      have hD : va_D A [(hx_, .inr (4, [.ref hp, .ref hst, .ref hd, .ref hfa])), (hp, .inr (2, [.int (iZ w), .int (iZ h), .int (iZ mn), .ref hw, .ref hs, .ref hk])), (hw, .inl (cL, 16384, .inr (.inl (aL G)))), (hd, .inr (0, [.int (iZ n), .ref hy])), (hy, .inl (cB, 4096, .inl (aI Y))), (hst, .inr (3, [.ref hp, .int (iZ sx), .int (iZ sy), .int (iZ sq), .int (iZ sl), .int (iZ sp), .int (iZ sr), .int (iZ sb)]))] := hD
      refine lv_aload_n hx hb d_D_bars_33 rfl (lv_at hl 0 rfl) ?_
      refine va_get (D := (dC, dI)) (ci := 4) (v := .ref hst) (C := R_D) (T := T_D) (N := 4) hx hb hts wi_D hown hK hP 0 rfl rfl 1 (by decide) (hts _ t_127) (fun _ h9 => h9) rfl d_D_bars_34 ?_
      refine lv_iload_n hx hb d_D_bars_37 rfl (lv_at hl 1 rfl) ?_
      refine lv_iload_n hx hb d_D_bars_38 rfl (lv_at hl 2 rfl) ?_
      refine lv_iload hx hb d_D_bars_39 (lv_at hl 5 rfl) ?_
      refine zc_v (w1 := fun (u_41 : Unit) => [(hst, .inr (3, [.ref hp, .int (iZ x), .int (iZ y), .int (iZ qr), .int (iZ sl), .int (iZ sp), .int (iZ sr), .int (iZ sb)]))]) (wr := [(hx_, .inr (4, [.ref hp, .ref hst, .ref hd, .ref hfa])), (hp, .inr (2, [.int (iZ w), .int (iZ h), .int (iZ mn), .ref hw, .ref hs, .ref hk])), (hw, .inl (cL, 16384, .inr (.inl (aL G)))), (hd, .inr (0, [.int (iZ n), .ref hy])), (hy, .inl (cB, 4096, .inl (aI Y)))]) (va_runV (As := [.int (iZ x), .int (iZ y), .int (iZ qr)]) (rest := []) ⟨hx, hb, hml, hown, hts⟩ (c_Steps_startAt l dC dI hst hp sx sy sq sl sp sr sb x y qr H.size ) (cwV 3 hts (gV t_473 t_474 t_475 t_3 t_476) rfl rfl rfl (by decide +kernel) ⟨Nat.le_of_ble_eq_true rfl, Nat.le_of_ble_eq_true rfl⟩) ⟨zPm_blind, va_recv hK hP (ci := 3) (q0 := 5) rfl rfl, zPm_pre hP hD hK [5] [] rfl rfl rfl rfl⟩ rfl rfl hl.1 rfl (lv_room (Nat.le_of_ble_eq_true rfl)) d_D_bars_41 ⟨Nat.le_of_ble_eq_true rfl, Nat.le_of_ble_eq_true rfl⟩) hP hD hS hA [5] [0, 1, 2, 3, 4] rfl rfl rfl (by decide) (fun u_41 H locs q_41 hP hD hS => ?_)
      have hP : va_P (dC, dI) vwCl [(hx_, .inr (4, [.ref hp, .ref hst, .ref hd, .ref hfa])), (hp, .inr (2, [.int (iZ w), .int (iZ h), .int (iZ mn), .ref hw, .ref hs, .ref hk])), (hw, .inl (cL, 16384, .inr (.inl (aL G)))), (hd, .inr (0, [.int (iZ n), .ref hy])), (hy, .inl (cB, 4096, .inl (aI Y))), (hst, .inr (3, [.ref hp, .int (iZ x), .int (iZ y), .int (iZ qr), .int (iZ sl), .int (iZ sp), .int (iZ sr), .int (iZ sb)]))] H := hP
      have hD : va_D A [(hx_, .inr (4, [.ref hp, .ref hst, .ref hd, .ref hfa])), (hp, .inr (2, [.int (iZ w), .int (iZ h), .int (iZ mn), .ref hw, .ref hs, .ref hk])), (hw, .inl (cL, 16384, .inr (.inl (aL G)))), (hd, .inr (0, [.int (iZ n), .ref hy])), (hy, .inl (cB, 4096, .inl (aI Y))), (hst, .inr (3, [.ref hp, .int (iZ x), .int (iZ y), .int (iZ qr), .int (iZ sl), .int (iZ sp), .int (iZ sr), .int (iZ sb)]))] := hD
      have hd2 : ∀ k, 0 ≤ m_ * dr0 k := fun k => Int.mul_nonneg (by omega) (hd0 k).1
      refine lv_iconst (v := iZ (0)) hx hb d_D_bars_44 rfl ?_
      refine lv_istore (lv' := [(6, .int (iZ 0)), (0, .ref hx_), (1, .int (iZ x)), (2, .int (iZ y)), (3, .int (iZ bh)), (4, .int (iZ m_)), (5, .int (iZ qr))]) hx hb d_D_bars_45 hl (by decide) rfl (fun ls hl => ?_)
      refine lv_iconst (v := iZ (0)) hx hb d_D_bars_47 rfl ?_
      refine lv_istore (lv' := [(7, .int (iZ 0)), (6, .int (iZ 0)), (0, .ref hx_), (1, .int (iZ x)), (2, .int (iZ y)), (3, .int (iZ bh)), (4, .int (iZ m_)), (5, .int (iZ qr))]) hx hb d_D_bars_48 hl (by decide) rfl (fun ls hl => ?_)
      refine lv_iconst (v := iZ (0)) hx hb d_D_bars_50 rfl ?_
      refine lv_istore (lv' := [(8, .int (iZ 0)), (7, .int (iZ 0)), (6, .int (iZ 0)), (0, .ref hx_), (1, .int (iZ x)), (2, .int (iZ y)), (3, .int (iZ bh)), (4, .int (iZ m_)), (5, .int (iZ qr))]) hx hb d_D_bars_51 hl (by decide) rfl (fun ls hl => ?_)
      have LP_53 : ∀ (n_53 : Nat) (k_ : Int) (st_ : Int) (dn : Int) (K : Int → Int64) (s1 : Int) (s2 : Int) (s3 : Int) (s4 : Int) (k : Nat), (k_ = k) → (k_ ≤ n) → (acI w h mn (baB dr0 qr x y bh m_ k) pic K dn) → (st_ = stN dr0 m_ k) → (0 ≤ st_ ∧ st_ ≤ 12750 * k_) → (n - k_).toNat < n_53 → ∀ (H : Heap) (locs : List Loc), va_P (dC, dI) vwCl [(hx_, .inr (4, [.ref hp, .ref hst, .ref hd, .ref hfa])), (hp, .inr (2, [.int (iZ w), .int (iZ h), .int (iZ mn), .ref hw, .ref hs, .ref hk])), (hw, .inl (cL, 16384, .inr (.inl (aL K)))), (hd, .inr (0, [.int (iZ n), .ref hy])), (hy, .inl (cB, 4096, .inl (aI Y))), (hst, .inr (3, [.ref hp, .int (iZ x), .int (iZ y), .int (iZ qr), .int (iZ s1), .int (iZ s2), .int (iZ s3), .int (iZ s4)]))] H → va_D A [(hx_, .inr (4, [.ref hp, .ref hst, .ref hd, .ref hfa])), (hp, .inr (2, [.int (iZ w), .int (iZ h), .int (iZ mn), .ref hw, .ref hs, .ref hk])), (hw, .inl (cL, 16384, .inr (.inl (aL K)))), (hd, .inr (0, [.int (iZ n), .ref hy])), (hy, .inl (cB, 4096, .inl (aI Y))), (hst, .inr (3, [.ref hp, .int (iZ x), .int (iZ y), .int (iZ qr), .int (iZ s1), .int (iZ s2), .int (iZ s3), .int (iZ s4)]))] → va_S A s.heap H locs → ∀ (ls : Array Slot), lv_has ls 10 [(0, .ref hx_), (1, .int (iZ x)), (2, .int (iZ y)), (3, .int (iZ bh)), (4, .int (iZ m_)), (5, .int (iZ qr)), (6, .int (iZ dn)), (7, .int (iZ st_)), (8, .int (iZ k_))] → W p l e ({ frames := 8, cells := 2, slots := 12, locals := 142 } : Room) s m ([.ref hx_, .int (iZ x), .int (iZ y), .int (iZ bh), .int (iZ m_), .int (iZ qr)] : List Value).toArray below meth c H locs 2 12 (vx_MQ below (va_Qi (fun (r : Int32) (u : (Int → Int64) × Int × Int × Int × Int) => r = iZ (cnt w h (baB dr0 qr x y bh m_ n.toNat)) ∧ (-4096 ≤ x ∧ x ≤ 4096 ∧ -4096 ≤ y ∧ y ≤ 4096 ∧ 0 ≤ qr ∧ qr ≤ 3 ∧ 1 ≤ bh ∧ bh ≤ 2048 ∧ 1 ≤ m_ ∧ m_ ≤ 50) ∧ Rep u.1 (drw mn (fun px py => onB w h px py && baB dr0 qr x y bh m_ n.toNat px py) pic)) (fun u => zB (dC, dI) vwCl [(cL, .long), (cB, .byte)] A [(hx_, .inr (4, [.ref hp, .ref hst, .ref hd, .ref hfa])), (hp, .inr (2, [.int (iZ w), .int (iZ h), .int (iZ mn), .ref hw, .ref hs, .ref hk])), (hw, .inl (cL, 16384, .inr (.inl (aL u.1)))), (hd, .inr (0, [.int (iZ n), .ref hy])), (hy, .inl (cB, 4096, .inl (aI Y))), (hst, .inr (3, [.ref hp, .int (iZ x), .int (iZ y), .int (iZ qr), .int (iZ u.2.1), .int (iZ u.2.2.1), .int (iZ u.2.2.2.1), .int (iZ u.2.2.2.2)]))]) A) (zX (fun E => E = "java/lang/IllegalArgumentException" ∧ ¬ (-4096 ≤ x ∧ x ≤ 4096 ∧ -4096 ≤ y ∧ y ≤ 4096 ∧ 0 ≤ qr ∧ qr ≤ 3 ∧ 1 ≤ bh ∧ bh ≤ 2048 ∧ 1 ≤ m_ ∧ m_ ≤ 50)) (dC, dI) vwCl [(cL, .long), (cB, .byte)] A [(hx_, .inr (4, [.ref hp, .ref hst, .ref hd, .ref hfa])), (hp, .inr (2, [.int (iZ w), .int (iZ h), .int (iZ mn), .ref hw, .ref hs, .ref hk])), (hw, .inl (cL, 16384, .inr (.inl (aL G)))), (hd, .inr (0, [.int (iZ n), .ref hy])), (hy, .inl (cB, 4096, .inl (aI Y))), (hst, .inr (3, [.ref hp, .int (iZ sx), .int (iZ sy), .int (iZ sq), .int (iZ sl), .int (iZ sp), .int (iZ sr), .int (iZ sb)]))]) ([.ref hx_, .int (iZ x), .int (iZ y), .int (iZ bh), .int (iZ m_), .int (iZ qr)] : List Value).toArray s 2 12 A) (F0 m 53 ls []) := by
        intro n_53
        induction n_53 with
        | zero => intro k_ st_ dn K s1 s2 s3 s4 k i1 i2 i3 i4 i5 hm; exact absurd hm (by omega)
        | succ n_53 ih_53 =>
          intro k_ st_ dn K s1 s2 s3 s4 k i1 i2 i3 i4 i5 hm_53 H locs hP hD hS ls hl
          have i3b := i3.1
          refine lv_iload hx hb d_D_bars_53 (lv_at hl 8 rfl) ?_
          refine lv_aload_n hx hb d_D_bars_55 rfl (lv_at hl 0 rfl) ?_
          refine va_get (D := (dC, dI)) (ci := 4) (v := .ref hd) (C := R_D) (T := T_D) (N := 4) hx hb hts wi_D hown hK hP 0 rfl rfl 2 (by decide) (hts _ t_128) (fun _ h9 => h9) rfl d_D_bars_56 ?_
          refine va_get (D := (dC, dI)) (ci := 0) (v := .int (iZ n)) (C := R_Dr) (T := T_Dr) (N := 2) hx hb hts wi_Dr hown hK hP 3 rfl rfl 0 (by decide) (hts _ t_94) (fun _ h9 => h9) rfl d_D_bars_59 ?_
          refine zi_ge (tgt := 117) hx hb d_D_bars_62 (by decide) (by omega) (by omega) (by omega) (by omega) (fun c_62 => ?_) (fun c_62 => ?_)
          · refine lv_iload hx hb d_D_bars_117 (lv_at hl 6 rfl) ?_
            refine vx_ret ?_
            exact W.iret hx hb hr (fun t ht hW => ⟨⟨_, ((K, s1, s2, s3, s4)), rfl, ⟨congrArg iZ (by rw [i3.2, show n.toNat = k by omega]), by omega, by rw [show n.toNat = k by omega]; exact i3.1⟩, by rw [ht]; exact hP, va_K.moved hW.alike hK, hD⟩, hS.F ht⟩) hS.2.2 d_D_bars_119
          · refine lv_iload hx hb d_D_bars_65 (lv_at hl 4 rfl) ?_
            refine lv_aload_n hx hb d_D_bars_67 rfl (lv_at hl 0 rfl) ?_
            refine va_get (D := (dC, dI)) (ci := 4) (v := .ref hd) (C := R_D) (T := T_D) (N := 4) hx hb hts wi_D hown hK hP 0 rfl rfl 2 (by decide) (hts _ t_128) (fun _ h9 => h9) rfl d_D_bars_68 ?_
            refine lv_iload hx hb d_D_bars_71 (lv_at hl 8 rfl) ?_
            refine vp_callSi (va_runV (As := [.int (iZ k_)]) (rest := [.int (iZ m_)]) ⟨hx, hb, hml, hown, hts⟩ (c_Draft_byteAt l dC dI hd hy cB n Y dr k_ (by first | omega | assumption) (by first | omega | assumption) (by first | omega | assumption) (by first | omega | assumption) (by first | omega | assumption)) (cwV 1 hts (gV t_493 t_494 t_495 t_4 t_496) rfl rfl rfl (by decide +kernel) ⟨Nat.le_of_ble_eq_true rfl, Nat.le_of_ble_eq_true rfl⟩) ⟨zPr_blind, va_recv hK hP (ci := 0) (q0 := 3) rfl rfl, zPr_pre hP hK [3, 4] [1] rfl rfl⟩ rfl rfl hl.1 rfl (lv_room (Nat.le_of_ble_eq_true rfl)) d_D_bars_73 ⟨Nat.le_of_ble_eq_true rfl, Nat.le_of_ble_eq_true rfl⟩).run (fun r_73 q_73 => ?_)
            obtain rfl := q_73
            rw [if_pos (by omega), ← hd1 k_ (by omega) (by omega), i1]
            have d9 := hd0 (k : Int)
            have ma9 := mul_in (m := m_) (c := dr0 k) (M := 50) (C := 255) (by omega) (by omega) d9.1 d9.2
            refine zi_mul hx hb d_D_bars_76 ?_
            refine zn_z (fun al e_al => ?_)
            refine lv_istore (lv' := [(9, .int (iZ al)), (0, .ref hx_), (1, .int (iZ x)), (2, .int (iZ y)), (3, .int (iZ bh)), (4, .int (iZ m_)), (5, .int (iZ qr)), (6, .int (iZ dn)), (7, .int (iZ st_)), (8, .int (iZ k_))]) hx hb d_D_bars_77 hl (by decide) rfl (fun ls hl => ?_)
            refine lv_iload hx hb d_D_bars_79 (lv_at hl 9 rfl) ?_
            refine lv_iconst (v := iZ (2)) hx hb d_D_bars_81 rfl ?_
            refine zi_rem hx hb d_D_bars_82 (by omega) (by omega) (by omega) (by omega) ?_
            refine zi_if_ne (tgt := 104) hx hb d_D_bars_83 (by decide) (by omega) (by omega) (fun c_83 => ?_) (fun c_83 => ?_)
            · refine lv_iload hx hb d_D_bars_104 (lv_at hl 8 rfl) ?_
              refine lv_iload hx hb d_D_bars_106 (lv_at hl 0 rfl) ?_
              refine zi_add hx hb d_D_bars_108 ?_
              refine zn_z (fun v7_109 e_v7_109 => ?_)
              refine lv_istore (lv' := [(7, .int (iZ v7_109)), (9, .int (iZ al)), (0, .ref hx_), (1, .int (iZ x)), (2, .int (iZ y)), (3, .int (iZ bh)), (4, .int (iZ m_)), (5, .int (iZ qr)), (6, .int (iZ dn)), (8, .int (iZ k_))]) hx hb d_D_bars_109 hl (by decide) rfl (fun ls hl => ?_)
              refine lv_iinc (v := iZ (k_ + 1)) (lv' := [(8, .int (iZ (k_ + 1))), (7, .int (iZ v7_109)), (9, .int (iZ al)), (0, .ref hx_), (1, .int (iZ x)), (2, .int (iZ y)), (3, .int (iZ bh)), (4, .int (iZ m_)), (5, .int (iZ qr)), (6, .int (iZ dn))]) hx hb d_D_bars_111 hl (k := 9) rfl (iZ_add _ _) (by decide) rfl (fun ls hl => ?_)
              refine lv_goto (tgt := 53) hx hb d_D_bars_114 (by decide) ?_
              exact ih_53 (k_ + 1) v7_109 dn K s1 s2 s3 s4 (k + 1) (by omega) (by omega) (by first | (rw [e_v6_102, e_al, i4]; exact ac_step i3 (by rw [← i4, ← e_al]; exact q_98) (fun px py => ba_d hd2 px py) (fun px py => ba_yes (by omega) px py)) | exact ac_ext i3 (fun px py _ => ba_no (by omega) px py)) (by rw [e_v7_109, i4, e_al]; rfl) (by omega) (by omega) _ _ hP hD hS ls (lv_sub hl [3, 4, 5, 6, 7, 8, 9, 1, 0] rfl)
            · refine lv_iload hx hb d_D_bars_86 (lv_at hl 7 rfl) ?_
              refine lv_aload_n hx hb d_D_bars_88 rfl (lv_at hl 1 rfl) ?_
              refine va_get (D := (dC, dI)) (ci := 4) (v := .ref hst) (C := R_D) (T := T_D) (N := 4) hx hb hts wi_D hown hK hP 0 rfl rfl 1 (by decide) (hts _ t_127) (fun _ h9 => h9) rfl d_D_bars_89 ?_
              refine lv_iload hx hb d_D_bars_92 (lv_at hl 8 rfl) ?_
              refine lv_iconst (v := iZ (0)) hx hb d_D_bars_94 rfl ?_
              refine lv_iload hx hb d_D_bars_95 (lv_at hl 0 rfl) ?_
              refine lv_iload_n hx hb d_D_bars_97 rfl (lv_at hl 4 rfl) ?_
              refine zc_i (w1 := fun (u_98 : (Int → Int64) × Int × Int × Int × Int) => [(hst, .inr (3, [.ref hp, .int (iZ x), .int (iZ y), .int (iZ qr), .int (iZ u_98.2.1), .int (iZ u_98.2.2.1), .int (iZ u_98.2.2.2.1), .int (iZ u_98.2.2.2.2)])), (hp, .inr (2, [.int (iZ w), .int (iZ h), .int (iZ mn), .ref hw, .ref hs, .ref hk])), (hw, .inl (cL, 16384, .inr (.inl (aL u_98.1))))]) (wr := [(hx_, .inr (4, [.ref hp, .ref hst, .ref hd, .ref hfa])), (hd, .inr (0, [.int (iZ n), .ref hy])), (hy, .inl (cB, 4096, .inl (aI Y)))]) (va_runV (As := [.int (iZ st_), .int (iZ 0), .int (iZ al), .int (iZ bh)]) (rest := [.int (iZ dn)]) ⟨hx, hb, hml, hown, hts⟩ (c_Steps_drawBlock l dC dI hst hp x y qr s1 s2 s3 s4 hw hs hk cL w h mn K (drw mn (fun px py => onB w h px py && baB dr0 qr x y bh m_ k px py) pic) st_ 0 al bh H.size (by first | omega | assumption) (by first | omega | assumption) (by first | omega | assumption) (by first | omega | assumption) (by first | omega | assumption) (by first | omega | assumption) (by first | omega | assumption) (by first | omega | assumption) (by first | omega | assumption) (by first | omega | assumption) (by first | omega | assumption) (by first | omega | assumption) (by first | omega | assumption) (by first | omega | assumption) (by first | omega | assumption) (by first | omega | assumption) (by first | omega | assumption) (by first | omega | assumption) (by first | omega | assumption) (by first | omega | assumption) (by first | omega | assumption)) (cwV 4 hts (gV t_505 t_506 t_507 t_3 t_508) rfl rfl rfl (by decide +kernel) ⟨Nat.le_of_ble_eq_true rfl, Nat.le_of_ble_eq_true rfl⟩) ⟨zPm_blind, va_recv hK hP (ci := 3) (q0 := 5) rfl rfl, zPm_pre hP hD hK [5, 1, 2] [0] rfl rfl rfl rfl⟩ rfl rfl hl.1 rfl (lv_room (Nat.le_of_ble_eq_true rfl)) d_D_bars_98 ⟨Nat.le_of_ble_eq_true rfl, Nat.le_of_ble_eq_true rfl⟩) hP hD hS hA [5, 1, 2] [0, 3, 4] rfl rfl rfl (by decide) (fun r_98 u_98 H locs q_98 hP hD hS => ?_)
              have hP : va_P (dC, dI) vwCl [(hx_, .inr (4, [.ref hp, .ref hst, .ref hd, .ref hfa])), (hd, .inr (0, [.int (iZ n), .ref hy])), (hy, .inl (cB, 4096, .inl (aI Y))), (hst, .inr (3, [.ref hp, .int (iZ x), .int (iZ y), .int (iZ qr), .int (iZ u_98.2.1), .int (iZ u_98.2.2.1), .int (iZ u_98.2.2.2.1), .int (iZ u_98.2.2.2.2)])), (hp, .inr (2, [.int (iZ w), .int (iZ h), .int (iZ mn), .ref hw, .ref hs, .ref hk])), (hw, .inl (cL, 16384, .inr (.inl (aL u_98.1))))] H := hP
              have hD : va_D A [(hx_, .inr (4, [.ref hp, .ref hst, .ref hd, .ref hfa])), (hd, .inr (0, [.int (iZ n), .ref hy])), (hy, .inl (cB, 4096, .inl (aI Y))), (hst, .inr (3, [.ref hp, .int (iZ x), .int (iZ y), .int (iZ qr), .int (iZ u_98.2.1), .int (iZ u_98.2.2.1), .int (iZ u_98.2.2.2.1), .int (iZ u_98.2.2.2.2)])), (hp, .inr (2, [.int (iZ w), .int (iZ h), .int (iZ mn), .ref hw, .ref hs, .ref hk])), (hw, .inl (cL, 16384, .inr (.inl (aL u_98.1))))] := hD
              obtain ⟨rfl, q_98⟩ := q_98
              refine zi_add hx hb d_D_bars_101 ?_
              refine zn_z (fun v6_102 e_v6_102 => ?_)
              refine lv_istore (lv' := [(6, .int (iZ v6_102)), (9, .int (iZ al)), (0, .ref hx_), (1, .int (iZ x)), (2, .int (iZ y)), (3, .int (iZ bh)), (4, .int (iZ m_)), (5, .int (iZ qr)), (7, .int (iZ st_)), (8, .int (iZ k_))]) hx hb d_D_bars_102 hl (by decide) rfl (fun ls hl => ?_)
              refine lv_iload hx hb d_D_bars_104 (lv_at hl 8 rfl) ?_
              refine lv_iload hx hb d_D_bars_106 (lv_at hl 1 rfl) ?_
              refine zi_add hx hb d_D_bars_108 ?_
              refine zn_z (fun v7_109 e_v7_109 => ?_)
              refine lv_istore (lv' := [(7, .int (iZ v7_109)), (6, .int (iZ v6_102)), (9, .int (iZ al)), (0, .ref hx_), (1, .int (iZ x)), (2, .int (iZ y)), (3, .int (iZ bh)), (4, .int (iZ m_)), (5, .int (iZ qr)), (8, .int (iZ k_))]) hx hb d_D_bars_109 hl (by decide) rfl (fun ls hl => ?_)
              refine lv_iinc (v := iZ (k_ + 1)) (lv' := [(8, .int (iZ (k_ + 1))), (7, .int (iZ v7_109)), (6, .int (iZ v6_102)), (9, .int (iZ al)), (0, .ref hx_), (1, .int (iZ x)), (2, .int (iZ y)), (3, .int (iZ bh)), (4, .int (iZ m_)), (5, .int (iZ qr))]) hx hb d_D_bars_111 hl (k := 9) rfl (iZ_add _ _) (by decide) rfl (fun ls hl => ?_)
              refine lv_goto (tgt := 53) hx hb d_D_bars_114 (by decide) ?_
              exact ih_53 (k_ + 1) v7_109 v6_102 u_98.1 u_98.2.1 u_98.2.2.1 u_98.2.2.2.1 u_98.2.2.2.2 (k + 1) (by omega) (by omega) (by first | (rw [e_v6_102, e_al, i4]; exact ac_step i3 (by rw [← i4, ← e_al]; exact q_98) (fun px py => ba_d hd2 px py) (fun px py => ba_yes (by omega) px py)) | exact ac_ext i3 (fun px py _ => ba_no (by omega) px py)) (by rw [e_v7_109, i4, e_al]; rfl) (by omega) (by omega) _ _ (hP.sub (ws' := [(hx_, .inr (4, [.ref hp, .ref hst, .ref hd, .ref hfa])), (hp, .inr (2, [.int (iZ w), .int (iZ h), .int (iZ mn), .ref hw, .ref hs, .ref hk])), (hw, .inl (cL, 16384, .inr (.inl (aL u_98.1)))), (hd, .inr (0, [.int (iZ n), .ref hy])), (hy, .inl (cB, 4096, .inl (aI Y))), (hst, .inr (3, [.ref hp, .int (iZ x), .int (iZ y), .int (iZ qr), .int (iZ u_98.2.1), .int (iZ u_98.2.2.1), .int (iZ u_98.2.2.2.1), .int (iZ u_98.2.2.2.2)]))]) [0, 4, 5, 1, 2, 3] rfl) (hD.sub (ws' := [(hx_, .inr (4, [.ref hp, .ref hst, .ref hd, .ref hfa])), (hp, .inr (2, [.int (iZ w), .int (iZ h), .int (iZ mn), .ref hw, .ref hs, .ref hk])), (hw, .inl (cL, 16384, .inr (.inl (aL u_98.1)))), (hd, .inr (0, [.int (iZ n), .ref hy])), (hy, .inl (cB, 4096, .inl (aI Y))), (hst, .inr (3, [.ref hp, .int (iZ x), .int (iZ y), .int (iZ qr), .int (iZ u_98.2.1), .int (iZ u_98.2.2.1), .int (iZ u_98.2.2.2.1), .int (iZ u_98.2.2.2.2)]))]) [0, 4, 5, 1, 2, 3] (by decide) rfl) hS ls (lv_sub hl [4, 5, 6, 7, 8, 9, 2, 1, 0] rfl)
      exact LP_53 _ 0 0 0 G sl sp sr sb 0 (rfl) (by omega) (ac_0 hR (fun px py => by unfold baB; rfl)) (rfl) (by omega) (Nat.lt_succ_self _) _ _ hP hD hS ls (lv_sub hl [3, 4, 5, 6, 7, 8, 2, 1, 0] rfl)
