/-! texts: cells by their columns and rows -/
def gB (nI nJ : Int) (b : Int → Int → Bool) (I J : Int) : Bool := decide (0 ≤ I ∧ I < nI ∧ 0 ≤ J ∧ J < nJ) && b J I
def gP (nI nJ : Int) (b : Int → Int → Bool) (r c I J : Int) : Bool := gB nI nJ b I J && decide (J < r ∨ (J = r ∧ I < c))
theorem gp_0 {nI nJ : Int} {b : Int → Int → Bool} (I J : Int) : gP nI nJ b 0 0 I J = false := by
  unfold gP gB
  by_cases e : J < 0 ∨ (J = 0 ∧ I < 0)
  · rw [decide_eq_false (show ¬ (0 ≤ I ∧ I < nI ∧ 0 ≤ J ∧ J < nJ) by omega)]; simp
  · rw [decide_eq_false e, Bool.and_false]
theorem gp_row {nI nJ : Int} {b : Int → Int → Bool} {r : Int} (I J : Int) : gP nI nJ b r nI I J = gP nI nJ b (r + 1) 0 I J := by
  unfold gP
  cases e : gB nI nJ b I J
  · rfl
  · unfold gB at e
    rw [Bool.and_eq_true] at e
    have := of_decide_eq_true e.1
    rw [decide_eq_decide.mpr (show (J < r ∨ (J = r ∧ I < nI)) ↔ (J < r + 1 ∨ (J = r + 1 ∧ I < 0)) by omega)]
theorem gp_end {nI nJ : Int} {b : Int → Int → Bool} {r : Int} (hr : nJ ≤ r) (I J : Int) : gP nI nJ b r 0 I J = gB nI nJ b I J := by
  unfold gP
  cases e : gB nI nJ b I J
  · rfl
  · unfold gB at e
    rw [Bool.and_eq_true] at e
    have := of_decide_eq_true e.1
    rw [decide_eq_true (show J < r ∨ (J = r ∧ I < 0) by omega)]; rfl
theorem gp_no {nI nJ : Int} {b : Int → Int → Bool} {r c : Int} (hb : b r c = false) (I J : Int) : gP nI nJ b r c I J = gP nI nJ b r (c + 1) I J := by
  unfold gP
  cases e : gB nI nJ b I J
  · rfl
  · by_cases z : J = r ∧ I = c
    · unfold gB at e
      rw [Bool.and_eq_true, z.1, z.2, hb] at e
      exact absurd e.2 (by decide)
    · rw [decide_eq_decide.mpr (show (J < r ∨ (J = r ∧ I < c)) ↔ (J < r ∨ (J = r ∧ I < c + 1)) by omega)]
theorem gp_yes {nI nJ : Int} {b : Int → Int → Bool} {r c : Int} (r0 : 0 ≤ r) (r1 : r < nJ) (c0 : 0 ≤ c) (c1 : c < nI) (hb : b r c = true) (I J : Int) : (gP nI nJ b r c I J || decide (I = c ∧ J = r)) = gP nI nJ b r (c + 1) I J := by
  apply bor_iff
  unfold gP
  rw [Bool.and_eq_true, Bool.and_eq_true, decide_eq_true_iff, decide_eq_true_iff, decide_eq_true_iff]
  constructor
  · rintro (⟨a, d⟩ | a)
    · exact ⟨a, by omega⟩
    · refine ⟨?_, by omega⟩
      unfold gB
      rw [a.1, a.2, hb, decide_eq_true (by omega)]; rfl
  · rintro ⟨a, d⟩
    by_cases z : J < r ∨ (J = r ∧ I < c)
    · exact Or.inl ⟨a, z⟩
    · exact Or.inr (by omega)
theorem gp_d {nI nJ : Int} {b : Int → Int → Bool} {r c : Int} (I J : Int) (z : gP nI nJ b r c I J = true) : decide (I = c ∧ J = r) = false := by
  unfold gP at z
  rw [Bool.and_eq_true] at z
  have := of_decide_eq_true z.2
  exact decide_eq_false (by omega)
theorem st_div2 {q x y st pa qa r c : Int} (m0 : 0 < pa) (m1 : 0 < qa) (px py : Int) : stB q x y (st + pa * c) (qa * r) pa qa px py = decide ((alg q x y px py - st) / pa = c ∧ acr q x y px py / qa = r) := by
  unfold stB
  exact decide_eq_decide.mpr (by rw [dv_iff m0, dv_iff m1]; omega)
/-- the dark dots of a code's cell: row r, column c -/
def cellB (X : Int → Int32) (cd fw : Int) (r c : Int) : Bool := fbit (X (cd * 32 + r)) (fw - 1 - c)
def tcB (X : Int → Int32) (cd fw fh st pa qa q x y px py : Int) : Bool := gB fw fh (cellB X cd fw) ((alg q x y px py - st) / pa) (acr q x y px py / qa)
def tcP (X : Int → Int32) (cd fw fh st pa qa q x y r c px py : Int) : Bool := gP fw fh (cellB X cd fw) r c ((alg q x y px py - st) / pa) (acr q x y px py / qa)
/-- the dots of a text of n cells -/
def txB (X : Int → Int32) (dr : Int → Int) (n fw fh fg pa qa q x y px py : Int) : Bool :=
  decide (0 ≤ alg q x y px py ∧ 0 ≤ acr q x y px py ∧ alg q x y px py / pa / (fw + fg) < n ∧ alg q x y px py / pa % (fw + fg) < fw ∧ acr q x y px py / qa < fh) &&
  cellB X (dr (alg q x y px py / pa / (fw + fg))) fw (acr q x y px py / qa) (alg q x y px py / pa % (fw + fg))
def txP (X : Int → Int32) (dr : Int → Int) (n fw fh fg pa qa q x y k px py : Int) : Bool := txB X dr n fw fh fg pa qa q x y px py && decide (alg q x y px py / pa / (fw + fg) < k)
theorem tx_col {i pa A k : Int} (m0 : 0 < pa) (m1 : 0 < A) : (i - k * (pa * A)) / pa = i / pa - k * A := by
  rw [dv_iff m0]
  have := (dv_iff (i := i) (c := i / pa) m0).mp rfl
  have e : pa * (i / pa - k * A) = pa * (i / pa) - k * (pa * A) := by grind
  omega
theorem tx_iff {X : Int → Int32} {dr : Int → Int} {n fw fh fg pa qa q x y k : Int} (p1 : 0 < pa) (q1 : 0 < qa) (f1 : 0 < fw) (g1 : 0 ≤ fg) (k0 : 0 ≤ k) (k1 : k < n) (px py : Int) :
    tcB X (dr k) fw fh (k * (pa * (fw + fg))) pa qa q x y px py = (txB X dr n fw fh fg pa qa q x y px py && decide (alg q x y px py / pa / (fw + fg) = k)) := by
  unfold tcB gB txB
  rw [tx_col p1 (by omega)]
  generalize hC : alg q x y px py / pa = C
  generalize hJ : acr q x y px py / qa = J
  have hA : 0 < fw + fg := by omega
  have hK := (dv_iff (i := C) (c := C / (fw + fg)) hA).mp rfl
  have hM := Int.mul_ediv_add_emod C (fw + fg)
  have hm0 := Int.emod_nonneg C (show fw + fg ≠ 0 by omega)
  have hm1 := Int.emod_lt_of_pos C hA
  have hi : 0 ≤ alg q x y px py ↔ 0 ≤ C := by
    have := (dv_iff (i := alg q x y px py) (c := C) p1).mp hC
    constructor
    · intro z; rw [← hC]; exact Int.ediv_nonneg z (by omega)
    · intro z
      have : 0 ≤ pa * C := Int.mul_nonneg (by omega) z
      omega
  have hj : 0 ≤ acr q x y px py ↔ 0 ≤ J := by
    have := (dv_iff (i := acr q x y px py) (c := J) q1).mp hJ
    constructor
    · intro z; rw [← hJ]; exact Int.ediv_nonneg z (by omega)
    · intro z
      have : 0 ≤ qa * J := Int.mul_nonneg (by omega) z
      omega
  by_cases e : C / (fw + fg) = k
  · rw [decide_eq_true e, Bool.and_true]
    have e2 : C % (fw + fg) = C - k * (fw + fg) := by rw [e] at hM; rw [Int.mul_comm] at hM; omega
    rw [e2, e]
    have e3 : 0 ≤ k * (fw + fg) := Int.mul_nonneg k0 (by omega)
    congr 1
    exact decide_eq_decide.mpr (by rw [hi, hj]; omega)
  · rw [decide_eq_false e, Bool.and_false]
    rw [decide_eq_false, Bool.false_and]
    rintro ⟨a, b, -, -⟩
    apply e
    rw [dv_iff hA, Int.mul_comm]
    omega
theorem tx_0 {X : Int → Int32} {dr : Int → Int} {n fw fh fg pa qa q x y : Int} (p1 : 0 < pa) (f1 : 0 < fw) (g1 : 0 ≤ fg) (px py : Int) : txP X dr n fw fh fg pa qa q x y 0 px py = false := by
  unfold txP txB
  by_cases e : 0 ≤ alg q x y px py
  · have a : 0 ≤ alg q x y px py / pa / (fw + fg) := Int.ediv_nonneg (Int.ediv_nonneg e (by omega)) (by omega)
    rw [decide_eq_false (show ¬ alg q x y px py / pa / (fw + fg) < 0 by omega), Bool.and_false]
  · rw [decide_eq_false (show ¬ (0 ≤ alg q x y px py ∧ _) from fun z => e z.1)]; simp
theorem tx_end {X : Int → Int32} {dr : Int → Int} {n fw fh fg pa qa q x y k : Int} (h : n ≤ k) (px py : Int) : txP X dr n fw fh fg pa qa q x y k px py = txB X dr n fw fh fg pa qa q x y px py := by
  unfold txP
  cases e : txB X dr n fw fh fg pa qa q x y px py
  · rfl
  · unfold txB at e
    rw [Bool.and_eq_true] at e
    have := of_decide_eq_true e.1
    rw [decide_eq_true (show alg q x y px py / pa / (fw + fg) < k by omega)]; rfl
theorem tx_step {X : Int → Int32} {dr : Int → Int} {n fw fh fg pa qa q x y k : Int} (p1 : 0 < pa) (q1 : 0 < qa) (f1 : 0 < fw) (g1 : 0 ≤ fg) (k0 : 0 ≤ k) (k1 : k < n) (px py : Int) :
    (txP X dr n fw fh fg pa qa q x y k px py || tcB X (dr k) fw fh (k * (pa * (fw + fg))) pa qa q x y px py) = txP X dr n fw fh fg pa qa q x y (k + 1) px py := by
  rw [tx_iff p1 q1 f1 g1 k0 k1]
  unfold txP
  cases txB X dr n fw fh fg pa qa q x y px py
  · rfl
  · simp only [Bool.true_and]
    rw [← Bool.decide_or]
    exact decide_eq_decide.mpr (by omega)
theorem tx_d {X : Int → Int32} {dr : Int → Int} {n fw fh fg pa qa q x y k : Int} (p1 : 0 < pa) (q1 : 0 < qa) (f1 : 0 < fw) (g1 : 0 ≤ fg) (k0 : 0 ≤ k) (k1 : k < n) (px py : Int) (z : txP X dr n fw fh fg pa qa q x y k px py = true) : tcB X (dr k) fw fh (k * (pa * (fw + fg))) pa qa q x y px py = false := by
  rw [tx_iff p1 q1 f1 g1 k0 k1]
  unfold txP at z
  rw [Bool.and_eq_true] at z
  have := of_decide_eq_true z.2
  rw [decide_eq_false (by omega), Bool.and_false]
theorem tx_box {X : Int → Int32} {cd fw fh st pa qa q x y : Int} (p1 : 0 < pa) (q1 : 0 < qa) (px py : Int) (z : tcB X cd fw fh st pa qa q x y px py = true) : stB q x y st 0 (pa * fw) (qa * fh) px py = true := by
  unfold tcB gB at z
  rw [Bool.and_eq_true] at z
  have a := of_decide_eq_true z.1
  have b := (dv_iff (i := alg q x y px py - st) (c := (alg q x y px py - st) / pa) p1).mp rfl
  have c := (dv_iff (i := acr q x y px py) (c := acr q x y px py / qa) q1).mp rfl
  have d1 : 0 ≤ pa * ((alg q x y px py - st) / pa) := Int.mul_nonneg (by omega) a.1
  have d2 : 0 ≤ qa * (acr q x y px py / qa) := Int.mul_nonneg (by omega) a.2.2.1
  have d3 : pa * ((alg q x y px py - st) / pa) ≤ pa * (fw - 1) := Int.mul_le_mul_of_nonneg_left (by omega) (by omega)
  have d4 : qa * (acr q x y px py / qa) ≤ qa * (fh - 1) := Int.mul_le_mul_of_nonneg_left (by omega) (by omega)
  have e1 : pa * (fw - 1) = pa * fw - pa := by grind
  have e2 : qa * (fh - 1) = qa * fh - qa := by grind
  unfold stB
  exact decide_eq_true (by omega)
theorem tx_skip {X : Int → Int32} {dr : Int → Int} {w h n fw fh fg pa qa q x y k : Int} (p1 : 0 < pa) (q1 : 0 < qa) (f1 : 0 < fw) (g1 : 0 ≤ fg) (k0 : 0 ≤ k) (k1 : k < n) (hs : ∀ px py : Int, onB w h px py = true → stB q x y (k * (pa * (fw + fg))) 0 (pa * fw) (qa * fh) px py = false) (px py : Int) (o : onB w h px py = true) :
    txP X dr n fw fh fg pa qa q x y k px py = txP X dr n fw fh fg pa qa q x y (k + 1) px py := by
  rw [← tx_step p1 q1 f1 g1 k0 k1]
  rw [show tcB X (dr k) fw fh (k * (pa * (fw + fg))) pa qa q x y px py = false from ?_, Bool.or_false]
  cases e : tcB X (dr k) fw fh (k * (pa * (fw + fg))) pa qa q x y px py
  · rfl
  · have := tx_box p1 q1 px py e
    rw [hs px py o] at this
    exact absurd this (by decide)
theorem iZ_and15 {a : Int} (a0 : 0 ≤ a) (a1 : a ≤ 2147483647) : iZ a &&& iZ 15 = iZ (a % 16) := by
  rw [iZ_nI a0, pk_andN (by omega) (m := iZ 15) 4 (by decide), iZ_nI (by omega)]
  congr 1
  omega
theorem d_D_drawCell_0 : decode c_yD_drawCell 0 = .ok (.iconst 0, 1) := by decide +kernel
theorem d_D_drawCell_1 : decode c_yD_drawCell 1 = .ok (.istore 6, 2) := by decide +kernel
theorem d_D_drawCell_3 : decode c_yD_drawCell 3 = .ok (.iconst 0, 1) := by decide +kernel
theorem d_D_drawCell_4 : decode c_yD_drawCell 4 = .ok (.istore 7, 2) := by decide +kernel
theorem d_D_drawCell_6 : decode c_yD_drawCell 6 = .ok (.iload 7, 2) := by decide +kernel
theorem d_D_drawCell_8 : decode c_yD_drawCell 8 = .ok (.aload_n 1, 1) := by decide +kernel
theorem d_D_drawCell_9 : decode c_yD_drawCell 9 = .ok (.getfield 123, 3) := by decide +kernel
theorem d_D_drawCell_12 : decode c_yD_drawCell 12 = .ok (.if_icmp .ge 67, 3) := by decide +kernel
theorem d_D_drawCell_15 : decode c_yD_drawCell 15 = .ok (.iconst 0, 1) := by decide +kernel
theorem d_D_drawCell_16 : decode c_yD_drawCell 16 = .ok (.istore 8, 2) := by decide +kernel
theorem d_D_drawCell_18 : decode c_yD_drawCell 18 = .ok (.iload 8, 2) := by decide +kernel
theorem d_D_drawCell_20 : decode c_yD_drawCell 20 = .ok (.aload_n 1, 1) := by decide +kernel
theorem d_D_drawCell_21 : decode c_yD_drawCell 21 = .ok (.getfield 140, 3) := by decide +kernel
theorem d_D_drawCell_24 : decode c_yD_drawCell 24 = .ok (.if_icmp .ge 49, 3) := by decide +kernel
theorem d_D_drawCell_27 : decode c_yD_drawCell 27 = .ok (.aload_n 1, 1) := by decide +kernel
theorem d_D_drawCell_28 : decode c_yD_drawCell 28 = .ok (.iload_n 2, 1) := by decide +kernel
theorem d_D_drawCell_29 : decode c_yD_drawCell 29 = .ok (.iload 8, 2) := by decide +kernel
theorem d_D_drawCell_31 : decode c_yD_drawCell 31 = .ok (.iload 7, 2) := by decide +kernel
theorem d_D_drawCell_33 : decode c_yD_drawCell 33 = .ok (.invokevirtual 223, 3) := by decide +kernel
theorem d_D_drawCell_36 : decode c_yD_drawCell 36 = .ok (.ifCond .eq 31, 3) := by decide +kernel
theorem d_D_drawCell_39 : decode c_yD_drawCell 39 = .ok (.iload 6, 2) := by decide +kernel
theorem d_D_drawCell_41 : decode c_yD_drawCell 41 = .ok (.aload_n 0, 1) := by decide +kernel
theorem d_D_drawCell_42 : decode c_yD_drawCell 42 = .ok (.getfield 21, 3) := by decide +kernel
theorem d_D_drawCell_45 : decode c_yD_drawCell 45 = .ok (.iload_n 3, 1) := by decide +kernel
theorem d_D_drawCell_46 : decode c_yD_drawCell 46 = .ok (.iload 4, 2) := by decide +kernel
theorem d_D_drawCell_48 : decode c_yD_drawCell 48 = .ok (.iload 8, 2) := by decide +kernel
theorem d_D_drawCell_50 : decode c_yD_drawCell 50 = .ok (.imul, 1) := by decide +kernel
theorem d_D_drawCell_51 : decode c_yD_drawCell 51 = .ok (.iadd, 1) := by decide +kernel
theorem d_D_drawCell_52 : decode c_yD_drawCell 52 = .ok (.iload 5, 2) := by decide +kernel
theorem d_D_drawCell_54 : decode c_yD_drawCell 54 = .ok (.iload 7, 2) := by decide +kernel
theorem d_D_drawCell_56 : decode c_yD_drawCell 56 = .ok (.imul, 1) := by decide +kernel
theorem d_D_drawCell_57 : decode c_yD_drawCell 57 = .ok (.iload 4, 2) := by decide +kernel
theorem d_D_drawCell_59 : decode c_yD_drawCell 59 = .ok (.iload 5, 2) := by decide +kernel
theorem d_D_drawCell_61 : decode c_yD_drawCell 61 = .ok (.invokevirtual 161, 3) := by decide +kernel
theorem d_D_drawCell_64 : decode c_yD_drawCell 64 = .ok (.iadd, 1) := by decide +kernel
theorem d_D_drawCell_65 : decode c_yD_drawCell 65 = .ok (.istore 6, 2) := by decide +kernel
theorem d_D_drawCell_67 : decode c_yD_drawCell 67 = .ok (.iinc 8 1, 3) := by decide +kernel
theorem d_D_drawCell_70 : decode c_yD_drawCell 70 = .ok (.goto (-52), 3) := by decide +kernel
theorem d_D_drawCell_73 : decode c_yD_drawCell 73 = .ok (.iinc 7 1, 3) := by decide +kernel
theorem d_D_drawCell_76 : decode c_yD_drawCell 76 = .ok (.goto (-70), 3) := by decide +kernel
theorem d_D_drawCell_79 : decode c_yD_drawCell 79 = .ok (.iload 6, 2) := by decide +kernel
theorem d_D_drawCell_81 : decode c_yD_drawCell 81 = .ok (.ireturn, 1) := by decide +kernel
set_option maxHeartbeats 4000000 in
set_option maxRecDepth 100000 in
theorem c_DotSheet_drawCell (l : Launch) (dC : Nat → ClassId) (dI : Nat → Nat → Nat) (hx_ hst hd hfa hp hw hs hk : Nat) (cL : ClassId) (w h mn : Int) (G : Int → Int64) (pic : Int → Int → Bool) (x y q sl sp sr sb : Int) (hf hrw : Nat) (cI : ClassId) (fw fh fg : Int) (X : Int → Int32) (cd st pa qa : Int) (sz : Nat) (w1 : 1 ≤ w) (w2 : w ≤ 1024) (h1 : 1 ≤ h) (h2 : h ≤ 1024) (mn1 : 0 ≤ mn) (mn2 : mn ≤ 2) (hR : Rep G pic) (q1 : 0 ≤ q) (q2 : q ≤ 3) (x1 : -4096 ≤ x) (x2 : x ≤ 4096) (y1 : -4096 ≤ y) (y2 : y ≤ 4096) (f1 : 1 ≤ fw) (f2 : fw ≤ 32) (fh1 : 1 ≤ fh) (fh2 : fh ≤ 32) (fg1 : 0 ≤ fg) (fg2 : fg ≤ 32) (c1 : 0 ≤ cd) (c2 : cd ≤ 255) (st1 : 0 ≤ st) (st2 : st ≤ 3000000) (pa1 : 1 ≤ pa) (pa2 : pa ≤ 10) (qa1 : 1 ≤ qa) (qa2 : qa ≤ 10) : Met l y_D_drawCell w_D_drawCell ({ frames := 4, cells := 0, slots := 0, locals := 101 }) (va_Pc [.ref hx_, .ref hf, .int (iZ cd), .int (iZ st), .int (iZ pa), .int (iZ qa)] (zPm (dC, dI) vwCl [(hx_, .inr (4, [.ref hp, .ref hst, .ref hd, .ref hfa])), (hp, .inr (2, [.int (iZ w), .int (iZ h), .int (iZ mn), .ref hw, .ref hs, .ref hk])), (hw, .inl (cL, 16384, .inr (.inl (aL G)))), (hst, .inr (3, [.ref hp, .int (iZ x), .int (iZ y), .int (iZ q), .int (iZ sl), .int (iZ sp), .int (iZ sr), .int (iZ sb)])), (hf, .inr (1, [.int (iZ fw), .int (iZ fh), .int (iZ fg), .ref hrw])), (hrw, .inl (cI, 8192, .inl (aI X)))] [(cL, .long), (cI, .int)] sz)) (va_Qi (fun (r : Int32) (u : (Int → Int64) × Int × Int × Int × Int) => r = iZ (cnt w h (tcB X cd fw fh st pa qa q x y)) ∧ Rep u.1 (drw mn (fun px py => onB w h px py && tcB X cd fw fh st pa qa q x y px py) pic)) (fun u => zB (dC, dI) vwCl [(cL, .long), (cI, .int)] (va_A [(hx_, .inr (4, [.ref hp, .ref hst, .ref hd, .ref hfa])), (hp, .inr (2, [.int (iZ w), .int (iZ h), .int (iZ mn), .ref hw, .ref hs, .ref hk])), (hw, .inl (cL, 16384, .inr (.inl (aL G)))), (hst, .inr (3, [.ref hp, .int (iZ x), .int (iZ y), .int (iZ q), .int (iZ sl), .int (iZ sp), .int (iZ sr), .int (iZ sb)])), (hf, .inr (1, [.int (iZ fw), .int (iZ fh), .int (iZ fg), .ref hrw])), (hrw, .inl (cI, 8192, .inl (aI X)))] sz) [(hx_, .inr (4, [.ref hp, .ref hst, .ref hd, .ref hfa])), (hp, .inr (2, [.int (iZ w), .int (iZ h), .int (iZ mn), .ref hw, .ref hs, .ref hk])), (hw, .inl (cL, 16384, .inr (.inl (aL u.1)))), (hst, .inr (3, [.ref hp, .int (iZ x), .int (iZ y), .int (iZ q), .int (iZ u.2.1), .int (iZ u.2.2.1), .int (iZ u.2.2.2.1), .int (iZ u.2.2.2.2)])), (hf, .inr (1, [.int (iZ fw), .int (iZ fh), .int (iZ fg), .ref hrw])), (hrw, .inl (cI, 8192, .inl (aI X)))]) (va_A [(hx_, .inr (4, [.ref hp, .ref hst, .ref hd, .ref hfa])), (hp, .inr (2, [.int (iZ w), .int (iZ h), .int (iZ mn), .ref hw, .ref hs, .ref hk])), (hw, .inl (cL, 16384, .inr (.inl (aL G)))), (hst, .inr (3, [.ref hp, .int (iZ x), .int (iZ y), .int (iZ q), .int (iZ sl), .int (iZ sp), .int (iZ sr), .int (iZ sb)])), (hf, .inr (1, [.int (iZ fw), .int (iZ fh), .int (iZ fg), .ref hrw])), (hrw, .inl (cI, 8192, .inl (aI X)))] sz)) 0 0 (va_A [(hx_, .inr (4, [.ref hp, .ref hst, .ref hd, .ref hfa])), (hp, .inr (2, [.int (iZ w), .int (iZ h), .int (iZ mn), .ref hw, .ref hs, .ref hk])), (hw, .inl (cL, 16384, .inr (.inl (aL G)))), (hst, .inr (3, [.ref hp, .int (iZ x), .int (iZ y), .int (iZ q), .int (iZ sl), .int (iZ sp), .int (iZ sr), .int (iZ sb)])), (hf, .inr (1, [.int (iZ fw), .int (iZ fh), .int (iZ fg), .ref hrw])), (hrw, .inl (cI, 8192, .inl (aI X)))] sz) := by
  refine Met.ofW (cc := c_yD_drawCell) (maxL := 9) (ret := (some .int)) (by decide) rfl ?_
  intro p e s m args below meth c s₁ B hml hv
  obtain ⟨rfl, hsz, hP, hK, hD0⟩ := hv
  have hx := B.exec
  have hb := B.bytes
  have hr := B.returns
  have hts0 := atoms_spec (ws := w_D_drawCell) B.pre
  have hts : ∀ w ∈ gT, w.before _ s = true := fun w h => hts0 w (List.mem_cons_of_mem _ h)
  have hown : s.vm.findClass R_D = some m.cls := findClass_of_methodNamed B.named
  have hlocks := B.notSynchronized
  subst hsz
  have hD := hD0.self (sz := s.heap.size)
  generalize hAe : va_A [(hx_, .inr (4, [.ref hp, .ref hst, .ref hd, .ref hfa])), (hp, .inr (2, [.int (iZ w), .int (iZ h), .int (iZ mn), .ref hw, .ref hs, .ref hk])), (hw, .inl (cL, 16384, .inr (.inl (aL G)))), (hst, .inr (3, [.ref hp, .int (iZ x), .int (iZ y), .int (iZ q), .int (iZ sl), .int (iZ sp), .int (iZ sr), .int (iZ sb)])), (hf, .inr (1, [.int (iZ fw), .int (iZ fh), .int (iZ fg), .ref hrw])), (hrw, .inl (cI, 8192, .inl (aI X)))] s.heap.size = A at hD ⊢
  have hA : ∀ q : Nat, s.heap.size ≤ q → A q := fun q h => by rw [← hAe]; exact Or.inr h
  obtain ⟨H, hH⟩ : ∃ H, s.heap = H := ⟨_, rfl⟩
  have hS : va_S A s.heap H [] := by rw [← hH]; exact va_S.rf
  rw [hH] at hP
  rw [hH]
  have hl := lv_entry ([.ref hx_, .ref hf, .int (iZ cd), .int (iZ st), .int (iZ pa), .int (iZ qa)]) (n := 9) (Nat.le_of_ble_eq_true rfl)
  rw [lg_entry_eq]
  generalize (lg_sl ([.ref hx_, .ref hf, .int (iZ cd), .int (iZ st), .int (iZ pa), .int (iZ qa)]) ++ List.replicate (9 - (lg_sl ([.ref hx_, .ref hf, .int (iZ cd), .int (iZ st), .int (iZ pa), .int (iZ qa)])).length) Slot.unset).toArray = ls at hl ⊢
  have hl : lv_has ls 9 [(0, .ref hx_), (1, .ref hf), (2, .int (iZ cd)), (3, .int (iZ st)), (4, .int (iZ pa)), (5, .int (iZ qa))] := hl
  refine lv_iconst (v := iZ (0)) hx hb d_D_drawCell_0 rfl ?_
  refine lv_istore (lv' := [(6, .int (iZ 0)), (0, .ref hx_), (1, .ref hf), (2, .int (iZ cd)), (3, .int (iZ st)), (4, .int (iZ pa)), (5, .int (iZ qa))]) hx hb d_D_drawCell_1 hl (by decide) rfl (fun ls hl => ?_)
  refine lv_iconst (v := iZ (0)) hx hb d_D_drawCell_3 rfl ?_
  refine lv_istore (lv' := [(7, .int (iZ 0)), (6, .int (iZ 0)), (0, .ref hx_), (1, .ref hf), (2, .int (iZ cd)), (3, .int (iZ st)), (4, .int (iZ pa)), (5, .int (iZ qa))]) hx hb d_D_drawCell_4 hl (by decide) rfl (fun ls hl => ?_)
  have LP_6 : ∀ (n_6 : Nat) (r_ : Int) (dn : Int) (K : Int → Int64) (s1 : Int) (s2 : Int) (s3 : Int) (s4 : Int), (0 ≤ r_) → (r_ ≤ fh) → (acI w h mn (tcP X cd fw fh st pa qa q x y r_ 0) pic K dn) → (fh - r_).toNat < n_6 → ∀ (H : Heap) (locs : List Loc), va_P (dC, dI) vwCl [(hx_, .inr (4, [.ref hp, .ref hst, .ref hd, .ref hfa])), (hp, .inr (2, [.int (iZ w), .int (iZ h), .int (iZ mn), .ref hw, .ref hs, .ref hk])), (hw, .inl (cL, 16384, .inr (.inl (aL K)))), (hst, .inr (3, [.ref hp, .int (iZ x), .int (iZ y), .int (iZ q), .int (iZ s1), .int (iZ s2), .int (iZ s3), .int (iZ s4)])), (hf, .inr (1, [.int (iZ fw), .int (iZ fh), .int (iZ fg), .ref hrw])), (hrw, .inl (cI, 8192, .inl (aI X)))] H → va_D A [(hx_, .inr (4, [.ref hp, .ref hst, .ref hd, .ref hfa])), (hp, .inr (2, [.int (iZ w), .int (iZ h), .int (iZ mn), .ref hw, .ref hs, .ref hk])), (hw, .inl (cL, 16384, .inr (.inl (aL K)))), (hst, .inr (3, [.ref hp, .int (iZ x), .int (iZ y), .int (iZ q), .int (iZ s1), .int (iZ s2), .int (iZ s3), .int (iZ s4)])), (hf, .inr (1, [.int (iZ fw), .int (iZ fh), .int (iZ fg), .ref hrw])), (hrw, .inl (cI, 8192, .inl (aI X)))] → va_S A s.heap H locs → ∀ (ls : Array Slot), lv_has ls 9 [(0, .ref hx_), (1, .ref hf), (2, .int (iZ cd)), (3, .int (iZ st)), (4, .int (iZ pa)), (5, .int (iZ qa)), (6, .int (iZ dn)), (7, .int (iZ r_))] → W p l e ({ frames := 4, cells := 0, slots := 0, locals := 101 } : Room) s m ([.ref hx_, .ref hf, .int (iZ cd), .int (iZ st), .int (iZ pa), .int (iZ qa)] : List Value).toArray below meth c H locs 0 0 (MQ below (va_Qi (fun (r : Int32) (u : (Int → Int64) × Int × Int × Int × Int) => r = iZ (cnt w h (tcB X cd fw fh st pa qa q x y)) ∧ Rep u.1 (drw mn (fun px py => onB w h px py && tcB X cd fw fh st pa qa q x y px py) pic)) (fun u => zB (dC, dI) vwCl [(cL, .long), (cI, .int)] A [(hx_, .inr (4, [.ref hp, .ref hst, .ref hd, .ref hfa])), (hp, .inr (2, [.int (iZ w), .int (iZ h), .int (iZ mn), .ref hw, .ref hs, .ref hk])), (hw, .inl (cL, 16384, .inr (.inl (aL u.1)))), (hst, .inr (3, [.ref hp, .int (iZ x), .int (iZ y), .int (iZ q), .int (iZ u.2.1), .int (iZ u.2.2.1), .int (iZ u.2.2.2.1), .int (iZ u.2.2.2.2)])), (hf, .inr (1, [.int (iZ fw), .int (iZ fh), .int (iZ fg), .ref hrw])), (hrw, .inl (cI, 8192, .inl (aI X)))]) A) ([.ref hx_, .ref hf, .int (iZ cd), .int (iZ st), .int (iZ pa), .int (iZ qa)] : List Value).toArray s 0 0 A) (F0 m 6 ls []) := by
    intro n_6
    induction n_6 with
    | zero => intro r_ dn K s1 s2 s3 s4 i1 i2 i3 hm; exact absurd hm (by omega)
    | succ n_6 ih_6 =>
      intro r_ dn K s1 s2 s3 s4 i1 i2 i3 hm_6 H locs hP hD hS ls hl
      refine lv_iload hx hb d_D_drawCell_6 (lv_at hl 7 rfl) ?_
      refine lv_aload_n hx hb d_D_drawCell_8 rfl (lv_at hl 1 rfl) ?_
      refine va_get (D := (dC, dI)) (ci := 1) (v := .int (iZ fh)) (C := R_Fo) (T := T_Fo) (N := 4) hx hb hts wi_Fo hown hK hP 4 rfl rfl 1 (by decide) (hts _ t_112) (fun _ h9 => h9) rfl d_D_drawCell_9 ?_
      refine zi_ge (tgt := 79) hx hb d_D_drawCell_12 (by decide) (by omega) (by omega) (by omega) (by omega) (fun c_12 => ?_) (fun c_12 => ?_)
      · refine lv_iload hx hb d_D_drawCell_79 (lv_at hl 6 rfl) ?_
        exact W.iret hx hb hr (fun t ht hW => ⟨⟨_, ((K, s1, s2, s3, s4)), rfl, ⟨congrArg iZ (ac_ext i3 (fun px py _ => gp_end (by omega) _ _)).2, (ac_ext i3 (fun px py _ => gp_end (by omega) _ _)).1⟩, by rw [ht]; exact hP, va_K.moved hW.alike hK, hD⟩, hS.F ht⟩) hS.2.2 d_D_drawCell_81
      · refine lv_iconst (v := iZ (0)) hx hb d_D_drawCell_15 rfl ?_
        refine lv_istore (lv' := [(8, .int (iZ 0)), (0, .ref hx_), (1, .ref hf), (2, .int (iZ cd)), (3, .int (iZ st)), (4, .int (iZ pa)), (5, .int (iZ qa)), (6, .int (iZ dn)), (7, .int (iZ r_))]) hx hb d_D_drawCell_16 hl (by decide) rfl (fun ls hl => ?_)
        have LP_18 : ∀ (n_18 : Nat) (c_ : Int) (dn2 : Int) (K2 : Int → Int64) (s1b : Int) (s2b : Int) (s3b : Int) (s4b : Int), (0 ≤ c_) → (c_ ≤ fw) → (acI w h mn (tcP X cd fw fh st pa qa q x y r_ c_) pic K2 dn2) → (fw - c_).toNat < n_18 → ∀ (H : Heap) (locs : List Loc), va_P (dC, dI) vwCl [(hx_, .inr (4, [.ref hp, .ref hst, .ref hd, .ref hfa])), (hp, .inr (2, [.int (iZ w), .int (iZ h), .int (iZ mn), .ref hw, .ref hs, .ref hk])), (hw, .inl (cL, 16384, .inr (.inl (aL K2)))), (hst, .inr (3, [.ref hp, .int (iZ x), .int (iZ y), .int (iZ q), .int (iZ s1b), .int (iZ s2b), .int (iZ s3b), .int (iZ s4b)])), (hf, .inr (1, [.int (iZ fw), .int (iZ fh), .int (iZ fg), .ref hrw])), (hrw, .inl (cI, 8192, .inl (aI X)))] H → va_D A [(hx_, .inr (4, [.ref hp, .ref hst, .ref hd, .ref hfa])), (hp, .inr (2, [.int (iZ w), .int (iZ h), .int (iZ mn), .ref hw, .ref hs, .ref hk])), (hw, .inl (cL, 16384, .inr (.inl (aL K2)))), (hst, .inr (3, [.ref hp, .int (iZ x), .int (iZ y), .int (iZ q), .int (iZ s1b), .int (iZ s2b), .int (iZ s3b), .int (iZ s4b)])), (hf, .inr (1, [.int (iZ fw), .int (iZ fh), .int (iZ fg), .ref hrw])), (hrw, .inl (cI, 8192, .inl (aI X)))] → va_S A s.heap H locs → ∀ (ls : Array Slot), lv_has ls 9 [(0, .ref hx_), (1, .ref hf), (2, .int (iZ cd)), (3, .int (iZ st)), (4, .int (iZ pa)), (5, .int (iZ qa)), (6, .int (iZ dn2)), (7, .int (iZ r_)), (8, .int (iZ c_))] → W p l e ({ frames := 4, cells := 0, slots := 0, locals := 101 } : Room) s m ([.ref hx_, .ref hf, .int (iZ cd), .int (iZ st), .int (iZ pa), .int (iZ qa)] : List Value).toArray below meth c H locs 0 0 (MQ below (va_Qi (fun (r : Int32) (u : (Int → Int64) × Int × Int × Int × Int) => r = iZ (cnt w h (tcB X cd fw fh st pa qa q x y)) ∧ Rep u.1 (drw mn (fun px py => onB w h px py && tcB X cd fw fh st pa qa q x y px py) pic)) (fun u => zB (dC, dI) vwCl [(cL, .long), (cI, .int)] A [(hx_, .inr (4, [.ref hp, .ref hst, .ref hd, .ref hfa])), (hp, .inr (2, [.int (iZ w), .int (iZ h), .int (iZ mn), .ref hw, .ref hs, .ref hk])), (hw, .inl (cL, 16384, .inr (.inl (aL u.1)))), (hst, .inr (3, [.ref hp, .int (iZ x), .int (iZ y), .int (iZ q), .int (iZ u.2.1), .int (iZ u.2.2.1), .int (iZ u.2.2.2.1), .int (iZ u.2.2.2.2)])), (hf, .inr (1, [.int (iZ fw), .int (iZ fh), .int (iZ fg), .ref hrw])), (hrw, .inl (cI, 8192, .inl (aI X)))]) A) ([.ref hx_, .ref hf, .int (iZ cd), .int (iZ st), .int (iZ pa), .int (iZ qa)] : List Value).toArray s 0 0 A) (F0 m 18 ls []) := by
          intro n_18
          induction n_18 with
          | zero => intro c_ dn2 K2 s1b s2b s3b s4b j1 j2 j3 hm; exact absurd hm (by omega)
          | succ n_18 ih_18 =>
            intro c_ dn2 K2 s1b s2b s3b s4b j1 j2 j3 hm_18 H locs hP hD hS ls hl
            have j3b := j3.1
            refine lv_iload hx hb d_D_drawCell_18 (lv_at hl 8 rfl) ?_
            refine lv_aload_n hx hb d_D_drawCell_20 rfl (lv_at hl 1 rfl) ?_
            refine va_get (D := (dC, dI)) (ci := 1) (v := .int (iZ fw)) (C := R_Fo) (T := T_Fo) (N := 4) hx hb hts wi_Fo hown hK hP 4 rfl rfl 0 (by decide) (hts _ t_110) (fun _ h9 => h9) rfl d_D_drawCell_21 ?_
            refine zi_ge (tgt := 73) hx hb d_D_drawCell_24 (by decide) (by omega) (by omega) (by omega) (by omega) (fun c_24 => ?_) (fun c_24 => ?_)
            · refine lv_iinc (v := iZ (r_ + 1)) (lv' := [(7, .int (iZ (r_ + 1))), (0, .ref hx_), (1, .ref hf), (2, .int (iZ cd)), (3, .int (iZ st)), (4, .int (iZ pa)), (5, .int (iZ qa)), (6, .int (iZ dn2)), (8, .int (iZ c_))]) hx hb d_D_drawCell_73 hl (k := 7) rfl (iZ_add _ _) (by decide) rfl (fun ls hl => ?_)
              refine lv_goto (tgt := 6) hx hb d_D_drawCell_76 (by decide) ?_
              exact ih_6 (r_ + 1) dn2 K2 s1b s2b s3b s4b (by omega) (by omega) (ac_ext j3 (fun px py _ => by rw [show c_ = fw by omega]; exact gp_row _ _)) (by omega) _ _ hP hD hS ls (lv_sub hl [1, 2, 3, 4, 5, 6, 7, 0] rfl)
            · refine lv_aload_n hx hb d_D_drawCell_27 rfl (lv_at hl 1 rfl) ?_
              refine lv_iload_n hx hb d_D_drawCell_28 rfl (lv_at hl 2 rfl) ?_
              refine lv_iload hx hb d_D_drawCell_29 (lv_at hl 8 rfl) ?_
              refine lv_iload hx hb d_D_drawCell_31 (lv_at hl 7 rfl) ?_
              refine vp_callSi (va_runV (As := [.int (iZ cd), .int (iZ c_), .int (iZ r_)]) (rest := []) ⟨hx, hb, hml, hown, hts⟩ (c_Font_isDark l dC dI hf hrw cI fw fh fg X cd c_ r_ (by first | omega | assumption) (by first | omega | assumption) (by first | omega | assumption) (by first | omega | assumption) (by first | omega | assumption) (by first | omega | assumption) (by first | omega | assumption) (by first | omega | assumption)) (cwV 3 hts (gV t_501 t_502 t_503 t_5 t_504) rfl rfl rfl (by decide +kernel) ⟨Nat.le_of_ble_eq_true rfl, Nat.le_of_ble_eq_true rfl⟩) ⟨zPr_blind, va_recv hK hP (ci := 1) (q0 := 4) rfl rfl, zPr_pre hP hK [4, 5] [1] rfl rfl⟩ rfl rfl hl.1 rfl (lv_room (Nat.le_of_ble_eq_true rfl)) d_D_drawCell_33 ⟨Nat.le_of_ble_eq_true rfl, Nat.le_of_ble_eq_true rfl⟩).run (fun r_33 q_33 => ?_)
              obtain rfl := q_33
              refine zb_if_eq (tgt := 67) hx hb d_D_drawCell_36 (by decide) (fun c_36 => ?_) (fun c_36 => ?_)
              · refine lv_iinc (v := iZ (c_ + 1)) (lv' := [(8, .int (iZ (c_ + 1))), (0, .ref hx_), (1, .ref hf), (2, .int (iZ cd)), (3, .int (iZ st)), (4, .int (iZ pa)), (5, .int (iZ qa)), (6, .int (iZ dn2)), (7, .int (iZ r_))]) hx hb d_D_drawCell_67 hl (k := 8) rfl (iZ_add _ _) (by decide) rfl (fun ls hl => ?_)
                refine lv_goto (tgt := 18) hx hb d_D_drawCell_70 (by decide) ?_
                exact ih_18 (c_ + 1) dn2 K2 s1b s2b s3b s4b (by omega) (by omega) (by first | exact ac_ext j3 (fun px py _ => gp_no c_36 _ _) | (rw [e_v6_65]; exact ac_step j3 q_61 (fun px py z => by rw [st_div2 (by omega) (by omega)]; exact gp_d _ _ z) (fun px py => by rw [st_div2 (by omega) (by omega)]; exact gp_yes (by omega) (by omega) (by omega) (by omega) c_36 _ _))) (by omega) _ _ hP hD hS ls (lv_sub hl [1, 2, 3, 4, 5, 6, 7, 8, 0] rfl)
              · have ma9 := mul_in (m := pa) (c := c_) (M := 10) (C := 32) (by omega) (by omega) (by omega) (by omega)
                have mb9 := mul_in (m := qa) (c := r_) (M := 10) (C := 32) (by omega) (by omega) (by omega) (by omega)
                refine lv_iload hx hb d_D_drawCell_39 (lv_at hl 6 rfl) ?_
                refine lv_aload_n hx hb d_D_drawCell_41 rfl (lv_at hl 0 rfl) ?_
                refine va_get (D := (dC, dI)) (ci := 4) (v := .ref hst) (C := R_D) (T := T_D) (N := 4) hx hb hts wi_D hown hK hP 0 rfl rfl 1 (by decide) (hts _ t_127) (fun _ h9 => h9) rfl d_D_drawCell_42 ?_
                refine lv_iload_n hx hb d_D_drawCell_45 rfl (lv_at hl 3 rfl) ?_
                refine lv_iload hx hb d_D_drawCell_46 (lv_at hl 4 rfl) ?_
                refine lv_iload hx hb d_D_drawCell_48 (lv_at hl 8 rfl) ?_
                refine zi_mul hx hb d_D_drawCell_50 ?_
                refine zi_add hx hb d_D_drawCell_51 ?_
                refine lv_iload hx hb d_D_drawCell_52 (lv_at hl 5 rfl) ?_
                refine lv_iload hx hb d_D_drawCell_54 (lv_at hl 7 rfl) ?_
                refine zi_mul hx hb d_D_drawCell_56 ?_
                refine lv_iload hx hb d_D_drawCell_57 (lv_at hl 4 rfl) ?_
                refine lv_iload hx hb d_D_drawCell_59 (lv_at hl 5 rfl) ?_
                refine zc_i (w1 := fun (u_61 : (Int → Int64) × Int × Int × Int × Int) => [(hst, .inr (3, [.ref hp, .int (iZ x), .int (iZ y), .int (iZ q), .int (iZ u_61.2.1), .int (iZ u_61.2.2.1), .int (iZ u_61.2.2.2.1), .int (iZ u_61.2.2.2.2)])), (hp, .inr (2, [.int (iZ w), .int (iZ h), .int (iZ mn), .ref hw, .ref hs, .ref hk])), (hw, .inl (cL, 16384, .inr (.inl (aL u_61.1))))]) (wr := [(hx_, .inr (4, [.ref hp, .ref hst, .ref hd, .ref hfa])), (hf, .inr (1, [.int (iZ fw), .int (iZ fh), .int (iZ fg), .ref hrw])), (hrw, .inl (cI, 8192, .inl (aI X)))]) (va_runV (As := [.int (iZ (st + (pa * c_))), .int (iZ (qa * r_)), .int (iZ pa), .int (iZ qa)]) (rest := [.int (iZ dn2)]) ⟨hx, hb, hml, hown, hts⟩ (c_Steps_drawBlock l dC dI hst hp x y q s1b s2b s3b s4b hw hs hk cL w h mn K2 (drw mn (fun px py => onB w h px py && tcP X cd fw fh st pa qa q x y r_ c_ px py) pic) (st + (pa * c_)) (qa * r_) pa qa H.size (by first | omega | assumption) (by first | omega | assumption) (by first | omega | assumption) (by first | omega | assumption) (by first | omega | assumption) (by first | omega | assumption) (by first | omega | assumption) (by first | omega | assumption) (by first | omega | assumption) (by first | omega | assumption) (by first | omega | assumption) (by first | omega | assumption) (by first | omega | assumption) (by first | omega | assumption) (by first | omega | assumption) (by first | omega | assumption) (by first | omega | assumption) (by first | omega | assumption) (by first | omega | assumption) (by first | omega | assumption) (by first | omega | assumption)) (cwV 4 hts (gV t_505 t_506 t_507 t_3 t_508) rfl rfl rfl (by decide +kernel) ⟨Nat.le_of_ble_eq_true rfl, Nat.le_of_ble_eq_true rfl⟩) ⟨zPm_blind, va_recv hK hP (ci := 3) (q0 := 3) rfl rfl, zPm_pre hP hD hK [3, 1, 2] [0] rfl rfl rfl rfl⟩ rfl rfl hl.1 rfl (lv_room (Nat.le_of_ble_eq_true rfl)) d_D_drawCell_61 ⟨Nat.le_of_ble_eq_true rfl, Nat.le_of_ble_eq_true rfl⟩) hP hD hS hA [3, 1, 2] [0, 4, 5] rfl rfl rfl (by decide) (fun r_61 u_61 H locs q_61 hP hD hS => ?_)
                have hP : va_P (dC, dI) vwCl [(hx_, .inr (4, [.ref hp, .ref hst, .ref hd, .ref hfa])), (hf, .inr (1, [.int (iZ fw), .int (iZ fh), .int (iZ fg), .ref hrw])), (hrw, .inl (cI, 8192, .inl (aI X))), (hst, .inr (3, [.ref hp, .int (iZ x), .int (iZ y), .int (iZ q), .int (iZ u_61.2.1), .int (iZ u_61.2.2.1), .int (iZ u_61.2.2.2.1), .int (iZ u_61.2.2.2.2)])), (hp, .inr (2, [.int (iZ w), .int (iZ h), .int (iZ mn), .ref hw, .ref hs, .ref hk])), (hw, .inl (cL, 16384, .inr (.inl (aL u_61.1))))] H := hP
                have hD : va_D A [(hx_, .inr (4, [.ref hp, .ref hst, .ref hd, .ref hfa])), (hf, .inr (1, [.int (iZ fw), .int (iZ fh), .int (iZ fg), .ref hrw])), (hrw, .inl (cI, 8192, .inl (aI X))), (hst, .inr (3, [.ref hp, .int (iZ x), .int (iZ y), .int (iZ q), .int (iZ u_61.2.1), .int (iZ u_61.2.2.1), .int (iZ u_61.2.2.2.1), .int (iZ u_61.2.2.2.2)])), (hp, .inr (2, [.int (iZ w), .int (iZ h), .int (iZ mn), .ref hw, .ref hs, .ref hk])), (hw, .inl (cL, 16384, .inr (.inl (aL u_61.1))))] := hD
                obtain ⟨rfl, q_61⟩ := q_61
                refine zi_add hx hb d_D_drawCell_64 ?_
                refine zn_z (fun v6_65 e_v6_65 => ?_)
                refine lv_istore (lv' := [(6, .int (iZ v6_65)), (0, .ref hx_), (1, .ref hf), (2, .int (iZ cd)), (3, .int (iZ st)), (4, .int (iZ pa)), (5, .int (iZ qa)), (7, .int (iZ r_)), (8, .int (iZ c_))]) hx hb d_D_drawCell_65 hl (by decide) rfl (fun ls hl => ?_)
                refine lv_iinc (v := iZ (c_ + 1)) (lv' := [(8, .int (iZ (c_ + 1))), (6, .int (iZ v6_65)), (0, .ref hx_), (1, .ref hf), (2, .int (iZ cd)), (3, .int (iZ st)), (4, .int (iZ pa)), (5, .int (iZ qa)), (7, .int (iZ r_))]) hx hb d_D_drawCell_67 hl (k := 8) rfl (iZ_add _ _) (by decide) rfl (fun ls hl => ?_)
                refine lv_goto (tgt := 18) hx hb d_D_drawCell_70 (by decide) ?_
                exact ih_18 (c_ + 1) v6_65 u_61.1 u_61.2.1 u_61.2.2.1 u_61.2.2.2.1 u_61.2.2.2.2 (by omega) (by omega) (by first | exact ac_ext j3 (fun px py _ => gp_no c_36 _ _) | (rw [e_v6_65]; exact ac_step j3 q_61 (fun px py z => by rw [st_div2 (by omega) (by omega)]; exact gp_d _ _ z) (fun px py => by rw [st_div2 (by omega) (by omega)]; exact gp_yes (by omega) (by omega) (by omega) (by omega) c_36 _ _))) (by omega) _ _ (hP.sub (ws' := [(hx_, .inr (4, [.ref hp, .ref hst, .ref hd, .ref hfa])), (hp, .inr (2, [.int (iZ w), .int (iZ h), .int (iZ mn), .ref hw, .ref hs, .ref hk])), (hw, .inl (cL, 16384, .inr (.inl (aL u_61.1)))), (hst, .inr (3, [.ref hp, .int (iZ x), .int (iZ y), .int (iZ q), .int (iZ u_61.2.1), .int (iZ u_61.2.2.1), .int (iZ u_61.2.2.2.1), .int (iZ u_61.2.2.2.2)])), (hf, .inr (1, [.int (iZ fw), .int (iZ fh), .int (iZ fg), .ref hrw])), (hrw, .inl (cI, 8192, .inl (aI X)))]) [0, 4, 5, 3, 1, 2] rfl) (hD.sub (ws' := [(hx_, .inr (4, [.ref hp, .ref hst, .ref hd, .ref hfa])), (hp, .inr (2, [.int (iZ w), .int (iZ h), .int (iZ mn), .ref hw, .ref hs, .ref hk])), (hw, .inl (cL, 16384, .inr (.inl (aL u_61.1)))), (hst, .inr (3, [.ref hp, .int (iZ x), .int (iZ y), .int (iZ q), .int (iZ u_61.2.1), .int (iZ u_61.2.2.1), .int (iZ u_61.2.2.2.1), .int (iZ u_61.2.2.2.2)])), (hf, .inr (1, [.int (iZ fw), .int (iZ fh), .int (iZ fg), .ref hrw])), (hrw, .inl (cI, 8192, .inl (aI X)))]) [0, 4, 5, 3, 1, 2] (by decide) rfl) hS ls (lv_sub hl [2, 3, 4, 5, 6, 7, 1, 8, 0] rfl)
        exact LP_18 _ 0 dn K s1 s2 s3 s4 (by omega) (by omega) (i3) (Nat.lt_succ_self _) _ _ hP hD hS ls (lv_sub hl [1, 2, 3, 4, 5, 6, 7, 8, 0] rfl)
  exact LP_6 _ 0 0 G sl sp sr sb (by omega) (by omega) (ac_0 hR (fun px py => gp_0 _ _)) (Nat.lt_succ_self _) _ _ hP hD hS ls (lv_sub hl [2, 3, 4, 5, 6, 7, 1, 0] rfl)
theorem d_D_text_0 : decode c_yD_text 0 = .ok (.iload_n 1, 1) := by decide +kernel
theorem d_D_text_1 : decode c_yD_text 1 = .ok (.iload_n 2, 1) := by decide +kernel
theorem d_D_text_2 : decode c_yD_text 2 = .ok (.iload 5, 2) := by decide +kernel
theorem d_D_text_4 : decode c_yD_text 4 = .ok (.invokestatic 134, 3) := by decide +kernel
theorem d_D_text_7 : decode c_yD_text 7 = .ok (.iload_n 3, 1) := by decide +kernel
theorem d_D_text_8 : decode c_yD_text 8 = .ok (.invokestatic 117, 3) := by decide +kernel
theorem d_D_text_11 : decode c_yD_text 11 = .ok (.ifCond .eq 19, 3) := by decide +kernel
theorem d_D_text_14 : decode c_yD_text 14 = .ok (.iload 4, 2) := by decide +kernel
theorem d_D_text_16 : decode c_yD_text 16 = .ok (.iconst 0, 1) := by decide +kernel
theorem d_D_text_17 : decode c_yD_text 17 = .ok (.sipush 255, 3) := by decide +kernel
theorem d_D_text_20 : decode c_yD_text 20 = .ok (.invokestatic 39, 3) := by decide +kernel
theorem d_D_text_23 : decode c_yD_text 23 = .ok (.ifCond .eq 7, 3) := by decide +kernel
theorem d_D_text_26 : decode c_yD_text 26 = .ok (.iconst 1, 1) := by decide +kernel
theorem d_D_text_27 : decode c_yD_text 27 = .ok (.goto 4, 3) := by decide +kernel
theorem d_D_text_30 : decode c_yD_text 30 = .ok (.iconst 0, 1) := by decide +kernel
theorem d_D_text_31 : decode c_yD_text 31 = .ok (.invokestatic 43, 3) := by decide +kernel
theorem d_D_text_34 : decode c_yD_text 34 = .ok (.iload 4, 2) := by decide +kernel
theorem d_D_text_36 : decode c_yD_text 36 = .ok (.iconst 4, 1) := by decide +kernel
theorem d_D_text_37 : decode c_yD_text 37 = .ok (.ishr, 1) := by decide +kernel
theorem d_D_text_38 : decode c_yD_text 38 = .ok (.istore 6, 2) := by decide +kernel
theorem d_D_text_40 : decode c_yD_text 40 = .ok (.iload 4, 2) := by decide +kernel
theorem d_D_text_42 : decode c_yD_text 42 = .ok (.bipush 15, 2) := by decide +kernel
theorem d_D_text_44 : decode c_yD_text 44 = .ok (.iand, 1) := by decide +kernel
theorem d_D_text_45 : decode c_yD_text 45 = .ok (.istore 7, 2) := by decide +kernel
theorem d_D_text_47 : decode c_yD_text 47 = .ok (.iload 6, 2) := by decide +kernel
theorem d_D_text_49 : decode c_yD_text 49 = .ok (.iconst 1, 1) := by decide +kernel
theorem d_D_text_50 : decode c_yD_text 50 = .ok (.bipush 10, 2) := by decide +kernel
theorem d_D_text_52 : decode c_yD_text 52 = .ok (.invokestatic 39, 3) := by decide +kernel
theorem d_D_text_55 : decode c_yD_text 55 = .ok (.ifCond .eq 18, 3) := by decide +kernel
theorem d_D_text_58 : decode c_yD_text 58 = .ok (.iload 7, 2) := by decide +kernel
theorem d_D_text_60 : decode c_yD_text 60 = .ok (.iconst 1, 1) := by decide +kernel
theorem d_D_text_61 : decode c_yD_text 61 = .ok (.bipush 10, 2) := by decide +kernel
theorem d_D_text_63 : decode c_yD_text 63 = .ok (.invokestatic 39, 3) := by decide +kernel
theorem d_D_text_66 : decode c_yD_text 66 = .ok (.ifCond .eq 7, 3) := by decide +kernel
theorem d_D_text_69 : decode c_yD_text 69 = .ok (.iconst 1, 1) := by decide +kernel
theorem d_D_text_70 : decode c_yD_text 70 = .ok (.goto 4, 3) := by decide +kernel
theorem d_D_text_73 : decode c_yD_text 73 = .ok (.iconst 0, 1) := by decide +kernel
theorem d_D_text_74 : decode c_yD_text 74 = .ok (.invokestatic 43, 3) := by decide +kernel
theorem d_D_text_77 : decode c_yD_text 77 = .ok (.aload_n 0, 1) := by decide +kernel
theorem d_D_text_78 : decode c_yD_text 78 = .ok (.getfield 21, 3) := by decide +kernel
theorem d_D_text_81 : decode c_yD_text 81 = .ok (.iload_n 1, 1) := by decide +kernel
theorem d_D_text_82 : decode c_yD_text 82 = .ok (.iload_n 2, 1) := by decide +kernel
theorem d_D_text_83 : decode c_yD_text 83 = .ok (.iload 5, 2) := by decide +kernel
theorem d_D_text_85 : decode c_yD_text 85 = .ok (.invokevirtual 137, 3) := by decide +kernel
theorem d_D_text_88 : decode c_yD_text 88 = .ok (.aload_n 0, 1) := by decide +kernel
theorem d_D_text_89 : decode c_yD_text 89 = .ok (.getfield 34, 3) := by decide +kernel
theorem d_D_text_92 : decode c_yD_text 92 = .ok (.iload_n 3, 1) := by decide +kernel
theorem d_D_text_93 : decode c_yD_text 93 = .ok (.aaload, 1) := by decide +kernel
theorem d_D_text_94 : decode c_yD_text 94 = .ok (.astore 8, 2) := by decide +kernel
theorem d_D_text_96 : decode c_yD_text 96 = .ok (.iload 6, 2) := by decide +kernel
theorem d_D_text_98 : decode c_yD_text 98 = .ok (.aload 8, 2) := by decide +kernel
theorem d_D_text_100 : decode c_yD_text 100 = .ok (.getfield 140, 3) := by decide +kernel
theorem d_D_text_103 : decode c_yD_text 103 = .ok (.aload 8, 2) := by decide +kernel
theorem d_D_text_105 : decode c_yD_text 105 = .ok (.getfield 143, 3) := by decide +kernel
theorem d_D_text_108 : decode c_yD_text 108 = .ok (.iadd, 1) := by decide +kernel
theorem d_D_text_109 : decode c_yD_text 109 = .ok (.imul, 1) := by decide +kernel
theorem d_D_text_110 : decode c_yD_text 110 = .ok (.istore 9, 2) := by decide +kernel
theorem d_D_text_112 : decode c_yD_text 112 = .ok (.iconst 0, 1) := by decide +kernel
theorem d_D_text_113 : decode c_yD_text 113 = .ok (.istore 10, 2) := by decide +kernel
theorem d_D_text_115 : decode c_yD_text 115 = .ok (.iconst 0, 1) := by decide +kernel
theorem d_D_text_116 : decode c_yD_text 116 = .ok (.istore 11, 2) := by decide +kernel
theorem d_D_text_118 : decode c_yD_text 118 = .ok (.iload 11, 2) := by decide +kernel
theorem d_D_text_120 : decode c_yD_text 120 = .ok (.aload_n 0, 1) := by decide +kernel
theorem d_D_text_121 : decode c_yD_text 121 = .ok (.getfield 28, 3) := by decide +kernel
theorem d_D_text_124 : decode c_yD_text 124 = .ok (.getfield 59, 3) := by decide +kernel
theorem d_D_text_127 : decode c_yD_text 127 = .ok (.if_icmp .ge 70, 3) := by decide +kernel
theorem d_D_text_130 : decode c_yD_text 130 = .ok (.aload_n 0, 1) := by decide +kernel
theorem d_D_text_131 : decode c_yD_text 131 = .ok (.getfield 21, 3) := by decide +kernel
theorem d_D_text_134 : decode c_yD_text 134 = .ok (.iload 11, 2) := by decide +kernel
theorem d_D_text_136 : decode c_yD_text 136 = .ok (.iload 9, 2) := by decide +kernel
theorem d_D_text_138 : decode c_yD_text 138 = .ok (.imul, 1) := by decide +kernel
theorem d_D_text_139 : decode c_yD_text 139 = .ok (.iconst 0, 1) := by decide +kernel
theorem d_D_text_140 : decode c_yD_text 140 = .ok (.iload 6, 2) := by decide +kernel
theorem d_D_text_142 : decode c_yD_text 142 = .ok (.aload 8, 2) := by decide +kernel
theorem d_D_text_144 : decode c_yD_text 144 = .ok (.getfield 140, 3) := by decide +kernel
theorem d_D_text_147 : decode c_yD_text 147 = .ok (.imul, 1) := by decide +kernel
theorem d_D_text_148 : decode c_yD_text 148 = .ok (.iload 7, 2) := by decide +kernel
theorem d_D_text_150 : decode c_yD_text 150 = .ok (.aload 8, 2) := by decide +kernel
theorem d_D_text_152 : decode c_yD_text 152 = .ok (.getfield 123, 3) := by decide +kernel
theorem d_D_text_155 : decode c_yD_text 155 = .ok (.imul, 1) := by decide +kernel
theorem d_D_text_156 : decode c_yD_text 156 = .ok (.invokevirtual 146, 3) := by decide +kernel
theorem d_D_text_159 : decode c_yD_text 159 = .ok (.ifCond .eq 32, 3) := by decide +kernel
theorem d_D_text_162 : decode c_yD_text 162 = .ok (.iload 10, 2) := by decide +kernel
theorem d_D_text_164 : decode c_yD_text 164 = .ok (.aload_n 0, 1) := by decide +kernel
theorem d_D_text_165 : decode c_yD_text 165 = .ok (.aload 8, 2) := by decide +kernel
theorem d_D_text_167 : decode c_yD_text 167 = .ok (.aload_n 0, 1) := by decide +kernel
theorem d_D_text_168 : decode c_yD_text 168 = .ok (.getfield 28, 3) := by decide +kernel
theorem d_D_text_171 : decode c_yD_text 171 = .ok (.iload 11, 2) := by decide +kernel
theorem d_D_text_173 : decode c_yD_text 173 = .ok (.invokevirtual 150, 3) := by decide +kernel
theorem d_D_text_176 : decode c_yD_text 176 = .ok (.iload 11, 2) := by decide +kernel
theorem d_D_text_178 : decode c_yD_text 178 = .ok (.iload 9, 2) := by decide +kernel
theorem d_D_text_180 : decode c_yD_text 180 = .ok (.imul, 1) := by decide +kernel
theorem d_D_text_181 : decode c_yD_text 181 = .ok (.iload 6, 2) := by decide +kernel
theorem d_D_text_183 : decode c_yD_text 183 = .ok (.iload 7, 2) := by decide +kernel
theorem d_D_text_185 : decode c_yD_text 185 = .ok (.invokevirtual 154, 3) := by decide +kernel
theorem d_D_text_188 : decode c_yD_text 188 = .ok (.iadd, 1) := by decide +kernel
theorem d_D_text_189 : decode c_yD_text 189 = .ok (.istore 10, 2) := by decide +kernel
theorem d_D_text_191 : decode c_yD_text 191 = .ok (.iinc 11 1, 3) := by decide +kernel
theorem d_D_text_194 : decode c_yD_text 194 = .ok (.goto (-76), 3) := by decide +kernel
theorem d_D_text_197 : decode c_yD_text 197 = .ok (.iload 10, 2) := by decide +kernel
theorem d_D_text_199 : decode c_yD_text 199 = .ok (.ireturn, 1) := by decide +kernel
set_option maxHeartbeats 4000000 in
set_option maxRecDepth 100000 in
theorem c_DotSheet_text (l : Launch) (hnt : l.stackTraces = false) (dC : Nat → ClassId) (dI : Nat → Nat → Nat) (sa : Nat → Nat) (hx_ hst hd hfa hp hw hs hk : Nat) (cL : ClassId) (w h mn : Int) (G : Int → Int64) (pic : Int → Int → Bool) (hy : Nat) (cB : ClassId) (n : Int) (Y : Int → Int32) (dr : Int → Int) (sx sy sq sl sp sr sb : Int) (cF : ClassId) (Fq : Int → Option Nat) (hf hrw : Nat) (cI : ClassId) (fw fh fg : Int) (X : Int → Int32) (x y f sc qr : Int) (sz : Nat) (w1 : 1 ≤ w) (w2 : w ≤ 1024) (h1 : 1 ≤ h) (h2 : h ≤ 1024) (mn1 : 0 ≤ mn) (mn2 : mn ≤ 2) (hR : Rep G pic) (n1 : 0 ≤ n) (n2 : n ≤ 4096) (hY : RepD Y n dr) (f1 : 1 ≤ fw) (f2 : fw ≤ 32) (fh1 : 1 ≤ fh) (fh2 : fh ≤ 32) (fg1 : 0 ≤ fg) (fg2 : fg ≤ 32) (hq : 0 ≤ f ∧ f ≤ 3 → Fq f = some hf) (x1 : -2147483648 ≤ x) (y1 : -2147483648 ≤ y) (f1 : -2147483648 ≤ f) (sc1 : -2147483648 ≤ sc) (qr1 : -2147483648 ≤ qr) (x2 : x ≤ 2147483647) (y2 : y ≤ 2147483647) (f2 : f ≤ 2147483647) (sc2 : sc ≤ 2147483647) (qr2 : qr ≤ 2147483647) : vx_Met l y_D_text w_D_text ({ frames := 8, cells := 3, slots := 18, locals := 142 }) (va_Pc [.ref hx_, .int (iZ x), .int (iZ y), .int (iZ f), .int (iZ sc), .int (iZ qr)] (zPx (dC, dI) vwCl [(hx_, .inr (4, [.ref hp, .ref hst, .ref hd, .ref hfa])), (hp, .inr (2, [.int (iZ w), .int (iZ h), .int (iZ mn), .ref hw, .ref hs, .ref hk])), (hw, .inl (cL, 16384, .inr (.inl (aL G)))), (hd, .inr (0, [.int (iZ n), .ref hy])), (hy, .inl (cB, 4096, .inl (aI Y))), (hst, .inr (3, [.ref hp, .int (iZ sx), .int (iZ sy), .int (iZ sq), .int (iZ sl), .int (iZ sp), .int (iZ sr), .int (iZ sb)])), (hfa, .inl (cF, 4, .inr (.inr (.inr (.inr (aQ Fq)))))), (hf, .inr (1, [.int (iZ fw), .int (iZ fh), .int (iZ fg), .ref hrw])), (hrw, .inl (cI, 8192, .inl (aI X)))] [(cL, .long), (cB, .byte), (cF, .object "DotSheet$Font"), (cI, .int)] sz sa)) (va_Qi (fun (r : Int32) (u : (Int → Int64) × Int × Int × Int × Int) => r = iZ (cnt w h (txB X dr n fw fh fg (sc / 16) (sc % 16) qr x y)) ∧ (-4096 ≤ x ∧ x ≤ 4096 ∧ -4096 ≤ y ∧ y ≤ 4096 ∧ 0 ≤ qr ∧ qr ≤ 3 ∧ 0 ≤ f ∧ f ≤ 3 ∧ 0 ≤ sc ∧ sc ≤ 255 ∧ 1 ≤ sc / 16 ∧ sc / 16 ≤ 10 ∧ 1 ≤ sc % 16 ∧ sc % 16 ≤ 10) ∧ Rep u.1 (drw mn (fun px py => onB w h px py && txB X dr n fw fh fg (sc / 16) (sc % 16) qr x y px py) pic)) (fun u => zB (dC, dI) vwCl [(cL, .long), (cB, .byte), (cF, .object "DotSheet$Font"), (cI, .int)] (va_A [(hx_, .inr (4, [.ref hp, .ref hst, .ref hd, .ref hfa])), (hp, .inr (2, [.int (iZ w), .int (iZ h), .int (iZ mn), .ref hw, .ref hs, .ref hk])), (hw, .inl (cL, 16384, .inr (.inl (aL G)))), (hd, .inr (0, [.int (iZ n), .ref hy])), (hy, .inl (cB, 4096, .inl (aI Y))), (hst, .inr (3, [.ref hp, .int (iZ sx), .int (iZ sy), .int (iZ sq), .int (iZ sl), .int (iZ sp), .int (iZ sr), .int (iZ sb)])), (hfa, .inl (cF, 4, .inr (.inr (.inr (.inr (aQ Fq)))))), (hf, .inr (1, [.int (iZ fw), .int (iZ fh), .int (iZ fg), .ref hrw])), (hrw, .inl (cI, 8192, .inl (aI X)))] sz) [(hx_, .inr (4, [.ref hp, .ref hst, .ref hd, .ref hfa])), (hp, .inr (2, [.int (iZ w), .int (iZ h), .int (iZ mn), .ref hw, .ref hs, .ref hk])), (hw, .inl (cL, 16384, .inr (.inl (aL u.1)))), (hd, .inr (0, [.int (iZ n), .ref hy])), (hy, .inl (cB, 4096, .inl (aI Y))), (hst, .inr (3, [.ref hp, .int (iZ x), .int (iZ y), .int (iZ qr), .int (iZ u.2.1), .int (iZ u.2.2.1), .int (iZ u.2.2.2.1), .int (iZ u.2.2.2.2)])), (hfa, .inl (cF, 4, .inr (.inr (.inr (.inr (aQ Fq)))))), (hf, .inr (1, [.int (iZ fw), .int (iZ fh), .int (iZ fg), .ref hrw])), (hrw, .inl (cI, 8192, .inl (aI X)))]) (va_A [(hx_, .inr (4, [.ref hp, .ref hst, .ref hd, .ref hfa])), (hp, .inr (2, [.int (iZ w), .int (iZ h), .int (iZ mn), .ref hw, .ref hs, .ref hk])), (hw, .inl (cL, 16384, .inr (.inl (aL G)))), (hd, .inr (0, [.int (iZ n), .ref hy])), (hy, .inl (cB, 4096, .inl (aI Y))), (hst, .inr (3, [.ref hp, .int (iZ sx), .int (iZ sy), .int (iZ sq), .int (iZ sl), .int (iZ sp), .int (iZ sr), .int (iZ sb)])), (hfa, .inl (cF, 4, .inr (.inr (.inr (.inr (aQ Fq)))))), (hf, .inr (1, [.int (iZ fw), .int (iZ fh), .int (iZ fg), .ref hrw])), (hrw, .inl (cI, 8192, .inl (aI X)))] sz)) (zX (fun E => E = "java/lang/IllegalArgumentException" ∧ ¬ (-4096 ≤ x ∧ x ≤ 4096 ∧ -4096 ≤ y ∧ y ≤ 4096 ∧ 0 ≤ qr ∧ qr ≤ 3 ∧ 0 ≤ f ∧ f ≤ 3 ∧ 0 ≤ sc ∧ sc ≤ 255 ∧ 1 ≤ sc / 16 ∧ sc / 16 ≤ 10 ∧ 1 ≤ sc % 16 ∧ sc % 16 ≤ 10)) (dC, dI) vwCl [(cL, .long), (cB, .byte), (cF, .object "DotSheet$Font"), (cI, .int)] (va_A [(hx_, .inr (4, [.ref hp, .ref hst, .ref hd, .ref hfa])), (hp, .inr (2, [.int (iZ w), .int (iZ h), .int (iZ mn), .ref hw, .ref hs, .ref hk])), (hw, .inl (cL, 16384, .inr (.inl (aL G)))), (hd, .inr (0, [.int (iZ n), .ref hy])), (hy, .inl (cB, 4096, .inl (aI Y))), (hst, .inr (3, [.ref hp, .int (iZ sx), .int (iZ sy), .int (iZ sq), .int (iZ sl), .int (iZ sp), .int (iZ sr), .int (iZ sb)])), (hfa, .inl (cF, 4, .inr (.inr (.inr (.inr (aQ Fq)))))), (hf, .inr (1, [.int (iZ fw), .int (iZ fh), .int (iZ fg), .ref hrw])), (hrw, .inl (cI, 8192, .inl (aI X)))] sz) [(hx_, .inr (4, [.ref hp, .ref hst, .ref hd, .ref hfa])), (hp, .inr (2, [.int (iZ w), .int (iZ h), .int (iZ mn), .ref hw, .ref hs, .ref hk])), (hw, .inl (cL, 16384, .inr (.inl (aL G)))), (hd, .inr (0, [.int (iZ n), .ref hy])), (hy, .inl (cB, 4096, .inl (aI Y))), (hst, .inr (3, [.ref hp, .int (iZ sx), .int (iZ sy), .int (iZ sq), .int (iZ sl), .int (iZ sp), .int (iZ sr), .int (iZ sb)])), (hfa, .inl (cF, 4, .inr (.inr (.inr (.inr (aQ Fq)))))), (hf, .inr (1, [.int (iZ fw), .int (iZ fh), .int (iZ fg), .ref hrw])), (hrw, .inl (cI, 8192, .inl (aI X)))]) 3 18 (va_A [(hx_, .inr (4, [.ref hp, .ref hst, .ref hd, .ref hfa])), (hp, .inr (2, [.int (iZ w), .int (iZ h), .int (iZ mn), .ref hw, .ref hs, .ref hk])), (hw, .inl (cL, 16384, .inr (.inl (aL G)))), (hd, .inr (0, [.int (iZ n), .ref hy])), (hy, .inl (cB, 4096, .inl (aI Y))), (hst, .inr (3, [.ref hp, .int (iZ sx), .int (iZ sy), .int (iZ sq), .int (iZ sl), .int (iZ sp), .int (iZ sr), .int (iZ sb)])), (hfa, .inl (cF, 4, .inr (.inr (.inr (.inr (aQ Fq)))))), (hf, .inr (1, [.int (iZ fw), .int (iZ fh), .int (iZ fg), .ref hrw])), (hrw, .inl (cI, 8192, .inl (aI X)))] sz) := by
  refine vx_ofW (cc := c_yD_text) (maxL := 12) (ret := (some .int)) (by decide) rfl ?_
  intro p e s m args below meth c s₁ B hml noEx hv
  obtain ⟨rfl, hsz, hP, hK, hD0, hXK⟩ := hv
  have hx := B.exec
  have hb := B.bytes
  have hr := B.returns
  have hts0 := atoms_spec (ws := w_D_text) B.pre
  have hts : ∀ w ∈ gT, w.before _ s = true := fun w h => hts0 w (List.mem_cons_of_mem _ h)
  have hown : s.vm.findClass R_D = some m.cls := findClass_of_methodNamed B.named
  have hlocks := B.notSynchronized
  subst hsz
  have hD := hD0.self (sz := s.heap.size)
  generalize hAe : va_A [(hx_, .inr (4, [.ref hp, .ref hst, .ref hd, .ref hfa])), (hp, .inr (2, [.int (iZ w), .int (iZ h), .int (iZ mn), .ref hw, .ref hs, .ref hk])), (hw, .inl (cL, 16384, .inr (.inl (aL G)))), (hd, .inr (0, [.int (iZ n), .ref hy])), (hy, .inl (cB, 4096, .inl (aI Y))), (hst, .inr (3, [.ref hp, .int (iZ sx), .int (iZ sy), .int (iZ sq), .int (iZ sl), .int (iZ sp), .int (iZ sr), .int (iZ sb)])), (hfa, .inl (cF, 4, .inr (.inr (.inr (.inr (aQ Fq)))))), (hf, .inr (1, [.int (iZ fw), .int (iZ fh), .int (iZ fg), .ref hrw])), (hrw, .inl (cI, 8192, .inl (aI X)))] s.heap.size = A at hD hXK ⊢
  have hA : ∀ q : Nat, s.heap.size ≤ q → A q := fun q h => by rw [← hAe]; exact Or.inr h
  obtain ⟨H, hH⟩ : ∃ H, s.heap = H := ⟨_, rfl⟩
  have hS : va_S A s.heap H [] := by rw [← hH]; exact va_S.rf
  rw [hH] at hP
  rw [hH]
  have hl := lv_entry ([.ref hx_, .int (iZ x), .int (iZ y), .int (iZ f), .int (iZ sc), .int (iZ qr)]) (n := 12) (Nat.le_of_ble_eq_true rfl)
  rw [lg_entry_eq]
  generalize (lg_sl ([.ref hx_, .int (iZ x), .int (iZ y), .int (iZ f), .int (iZ sc), .int (iZ qr)]) ++ List.replicate (12 - (lg_sl ([.ref hx_, .int (iZ x), .int (iZ y), .int (iZ f), .int (iZ sc), .int (iZ qr)])).length) Slot.unset).toArray = ls at hl ⊢
  have hl : lv_has ls 12 [(0, .ref hx_), (1, .int (iZ x)), (2, .int (iZ y)), (3, .int (iZ f)), (4, .int (iZ sc)), (5, .int (iZ qr))] := hl
  refine lv_iload_n hx hb d_D_text_0 rfl (lv_at hl 1 rfl) ?_
  refine lv_iload_n hx hb d_D_text_1 rfl (lv_at hl 2 rfl) ?_
  refine lv_iload hx hb d_D_text_2 (lv_at hl 5 rfl) ?_
  refine zx_v (w1 := fun (u_4 : Unit) => []) (wr := [(hx_, .inr (4, [.ref hp, .ref hst, .ref hd, .ref hfa])), (hp, .inr (2, [.int (iZ w), .int (iZ h), .int (iZ mn), .ref hw, .ref hs, .ref hk])), (hw, .inl (cL, 16384, .inr (.inl (aL G)))), (hd, .inr (0, [.int (iZ n), .ref hy])), (hy, .inl (cB, 4096, .inl (aI Y))), (hst, .inr (3, [.ref hp, .int (iZ sx), .int (iZ sy), .int (iZ sq), .int (iZ sl), .int (iZ sp), .int (iZ sr), .int (iZ sb)])), (hfa, .inl (cF, 4, .inr (.inr (.inr (.inr (aQ Fq)))))), (hf, .inr (1, [.int (iZ fw), .int (iZ fh), .int (iZ fg), .ref hrw])), (hrw, .inl (cI, 8192, .inl (aI X)))]) (vx_runS (As := [.int (iZ x), .int (iZ y), .int (iZ qr)]) (rest := []) ⟨hx, hb, hml, hown, hts⟩ (c_DotSheet_demandCorner l hnt dC dI sa x y qr H.size (by first | omega | assumption) (by first | omega | assumption) (by first | omega | assumption) (by first | omega | assumption) (by first | omega | assumption) (by first | omega | assumption)) (va_cwS 3 hts (gS t_467 t_468 t_1 t_469) rfl rfl rfl (by decide +kernel) ⟨Nat.le_of_ble_eq_true rfl, Nat.le_of_ble_eq_true rfl⟩) ⟨zPx_blind, zPx_pre hP hD hK hXK hS hA [] [] rfl rfl rfl rfl⟩ rfl rfl hl.1 rfl (lv_room (Nat.le_of_ble_eq_true rfl)) d_D_text_4 ⟨Nat.le_of_ble_eq_true rfl, Nat.le_of_ble_eq_true rfl⟩) hP hD hS hA [] [0, 1, 2, 3, 4, 5, 6, 7, 8] rfl rfl rfl (by decide) (fun E_ ce_ q9_ H locs x_4 hP hD hS hce hcv hcl => ?_) (fun u_4 H locs q_4 hP hD hS => ?_)
  · have hP : va_P (dC, dI) vwCl [(hx_, .inr (4, [.ref hp, .ref hst, .ref hd, .ref hfa])), (hp, .inr (2, [.int (iZ w), .int (iZ h), .int (iZ mn), .ref hw, .ref hs, .ref hk])), (hw, .inl (cL, 16384, .inr (.inl (aL G)))), (hd, .inr (0, [.int (iZ n), .ref hy])), (hy, .inl (cB, 4096, .inl (aI Y))), (hst, .inr (3, [.ref hp, .int (iZ sx), .int (iZ sy), .int (iZ sq), .int (iZ sl), .int (iZ sp), .int (iZ sr), .int (iZ sb)])), (hfa, .inl (cF, 4, .inr (.inr (.inr (.inr (aQ Fq)))))), (hf, .inr (1, [.int (iZ fw), .int (iZ fh), .int (iZ fg), .ref hrw])), (hrw, .inl (cI, 8192, .inl (aI X)))] H := hP
    have hD : va_D A [(hx_, .inr (4, [.ref hp, .ref hst, .ref hd, .ref hfa])), (hp, .inr (2, [.int (iZ w), .int (iZ h), .int (iZ mn), .ref hw, .ref hs, .ref hk])), (hw, .inl (cL, 16384, .inr (.inl (aL G)))), (hd, .inr (0, [.int (iZ n), .ref hy])), (hy, .inl (cB, 4096, .inl (aI Y))), (hst, .inr (3, [.ref hp, .int (iZ sx), .int (iZ sy), .int (iZ sq), .int (iZ sl), .int (iZ sp), .int (iZ sr), .int (iZ sb)])), (hfa, .inl (cF, 4, .inr (.inr (.inr (.inr (aQ Fq)))))), (hf, .inr (1, [.int (iZ fw), .int (iZ fh), .int (iZ fg), .ref hrw])), (hrw, .inl (cI, 8192, .inl (aI X)))] := hD
    exact vx_out (fun x9 h9 => (noEx x9 h9).elim) hlocks hce hcv hcl (fun t ht ha => ⟨(), trivial, ⟨⟨x_4.1, by have z9 := x_4.2; omega⟩, by rw [ht]; exact hP, va_K.moved ha hK, hD⟩, hS.F ht⟩) hS.2.2 (Nat.le_of_ble_eq_true rfl) (Nat.le_of_ble_eq_true rfl)
  have hP : va_P (dC, dI) vwCl [(hx_, .inr (4, [.ref hp, .ref hst, .ref hd, .ref hfa])), (hp, .inr (2, [.int (iZ w), .int (iZ h), .int (iZ mn), .ref hw, .ref hs, .ref hk])), (hw, .inl (cL, 16384, .inr (.inl (aL G)))), (hd, .inr (0, [.int (iZ n), .ref hy])), (hy, .inl (cB, 4096, .inl (aI Y))), (hst, .inr (3, [.ref hp, .int (iZ sx), .int (iZ sy), .int (iZ sq), .int (iZ sl), .int (iZ sp), .int (iZ sr), .int (iZ sb)])), (hfa, .inl (cF, 4, .inr (.inr (.inr (.inr (aQ Fq)))))), (hf, .inr (1, [.int (iZ fw), .int (iZ fh), .int (iZ fg), .ref hrw])), (hrw, .inl (cI, 8192, .inl (aI X)))] H := hP
  have hD : va_D A [(hx_, .inr (4, [.ref hp, .ref hst, .ref hd, .ref hfa])), (hp, .inr (2, [.int (iZ w), .int (iZ h), .int (iZ mn), .ref hw, .ref hs, .ref hk])), (hw, .inl (cL, 16384, .inr (.inl (aL G)))), (hd, .inr (0, [.int (iZ n), .ref hy])), (hy, .inl (cB, 4096, .inl (aI Y))), (hst, .inr (3, [.ref hp, .int (iZ sx), .int (iZ sy), .int (iZ sq), .int (iZ sl), .int (iZ sp), .int (iZ sr), .int (iZ sb)])), (hfa, .inl (cF, 4, .inr (.inr (.inr (.inr (aQ Fq)))))), (hf, .inr (1, [.int (iZ fw), .int (iZ fh), .int (iZ fg), .ref hrw])), (hrw, .inl (cI, 8192, .inl (aI X)))] := hD
  refine lv_iload_n hx hb d_D_text_7 rfl (lv_at hl 3 rfl) ?_
  refine vp_callSi (va_runS (As := [.int (iZ f)]) (rest := []) ⟨hx, hb, hml, hown, hts⟩ (c_DotSheet_isFont l dC dI f (by first | omega | assumption) (by first | omega | assumption)) (va_cwS 1 hts (gS t_422 t_423 t_1 t_424) rfl rfl rfl (by decide +kernel) ⟨Nat.le_of_ble_eq_true rfl, Nat.le_of_ble_eq_true rfl⟩) ⟨zPr_blind, zPr_pre hP hK [] [] rfl rfl⟩ rfl rfl hl.1 rfl (lv_room (Nat.le_of_ble_eq_true rfl)) d_D_text_8 ⟨Nat.le_of_ble_eq_true rfl, Nat.le_of_ble_eq_true rfl⟩).run (fun r_8 q_8 => ?_)
  obtain rfl := q_8
  refine zb_if_eq (tgt := 30) hx hb d_D_text_11 (by decide) (fun c_11 => ?_) (fun c_11 => ?_)
  · have c_11 := of_decide_eq_false c_11
    refine lv_iconst (v := iZ (0)) hx hb d_D_text_30 rfl ?_
    refine zx_v (w1 := fun (u_31 : Unit) => []) (wr := [(hx_, .inr (4, [.ref hp, .ref hst, .ref hd, .ref hfa])), (hp, .inr (2, [.int (iZ w), .int (iZ h), .int (iZ mn), .ref hw, .ref hs, .ref hk])), (hw, .inl (cL, 16384, .inr (.inl (aL G)))), (hd, .inr (0, [.int (iZ n), .ref hy])), (hy, .inl (cB, 4096, .inl (aI Y))), (hst, .inr (3, [.ref hp, .int (iZ sx), .int (iZ sy), .int (iZ sq), .int (iZ sl), .int (iZ sp), .int (iZ sr), .int (iZ sb)])), (hfa, .inl (cF, 4, .inr (.inr (.inr (.inr (aQ Fq)))))), (hf, .inr (1, [.int (iZ fw), .int (iZ fh), .int (iZ fg), .ref hrw])), (hrw, .inl (cI, 8192, .inl (aI X)))]) (vx_runS (As := [.int (bI false)]) (rest := []) ⟨hx, hb, hml, hown, hts⟩ (c_DotSheet_demand l hnt dC dI sa false H.size ) (va_cwS 1 hts (gS t_154 t_155 t_1 t_156) rfl rfl rfl (by decide +kernel) ⟨Nat.le_of_ble_eq_true rfl, Nat.le_of_ble_eq_true rfl⟩) ⟨zPx_blind, zPx_pre hP hD hK hXK hS hA [] [] rfl rfl rfl rfl⟩ rfl rfl hl.1 rfl (lv_room (Nat.le_of_ble_eq_true rfl)) d_D_text_31 ⟨Nat.le_of_ble_eq_true rfl, Nat.le_of_ble_eq_true rfl⟩) hP hD hS hA [] [0, 1, 2, 3, 4, 5, 6, 7, 8] rfl rfl rfl (by decide) (fun E_ ce_ q9_ H locs x_31 hP hD hS hce hcv hcl => ?_) (fun u_31 H locs q_31 hP hD hS => ?_)
    · have hP : va_P (dC, dI) vwCl [(hx_, .inr (4, [.ref hp, .ref hst, .ref hd, .ref hfa])), (hp, .inr (2, [.int (iZ w), .int (iZ h), .int (iZ mn), .ref hw, .ref hs, .ref hk])), (hw, .inl (cL, 16384, .inr (.inl (aL G)))), (hd, .inr (0, [.int (iZ n), .ref hy])), (hy, .inl (cB, 4096, .inl (aI Y))), (hst, .inr (3, [.ref hp, .int (iZ sx), .int (iZ sy), .int (iZ sq), .int (iZ sl), .int (iZ sp), .int (iZ sr), .int (iZ sb)])), (hfa, .inl (cF, 4, .inr (.inr (.inr (.inr (aQ Fq)))))), (hf, .inr (1, [.int (iZ fw), .int (iZ fh), .int (iZ fg), .ref hrw])), (hrw, .inl (cI, 8192, .inl (aI X)))] H := hP
      have hD : va_D A [(hx_, .inr (4, [.ref hp, .ref hst, .ref hd, .ref hfa])), (hp, .inr (2, [.int (iZ w), .int (iZ h), .int (iZ mn), .ref hw, .ref hs, .ref hk])), (hw, .inl (cL, 16384, .inr (.inl (aL G)))), (hd, .inr (0, [.int (iZ n), .ref hy])), (hy, .inl (cB, 4096, .inl (aI Y))), (hst, .inr (3, [.ref hp, .int (iZ sx), .int (iZ sy), .int (iZ sq), .int (iZ sl), .int (iZ sp), .int (iZ sr), .int (iZ sb)])), (hfa, .inl (cF, 4, .inr (.inr (.inr (.inr (aQ Fq)))))), (hf, .inr (1, [.int (iZ fw), .int (iZ fh), .int (iZ fg), .ref hrw])), (hrw, .inl (cI, 8192, .inl (aI X)))] := hD
      exact vx_out (fun x9 h9 => (noEx x9 h9).elim) hlocks hce hcv hcl (fun t ht ha => ⟨(), trivial, ⟨⟨x_31.1, by omega⟩, by rw [ht]; exact hP, va_K.moved ha hK, hD⟩, hS.F ht⟩) hS.2.2 (Nat.le_of_ble_eq_true rfl) (Nat.le_of_ble_eq_true rfl)
    exact absurd q_31 (by decide)
  · have c_11 := of_decide_eq_true c_11
    refine lv_iload hx hb d_D_text_14 (lv_at hl 4 rfl) ?_
    refine lv_iconst (v := iZ (0)) hx hb d_D_text_16 rfl ?_
    refine lv_sipush (v := iZ (255)) hx hb d_D_text_17 (by decide) ?_
    refine vp_callSi (va_runS (As := [.int (iZ sc), .int (iZ 0), .int (iZ 255)]) (rest := []) ⟨hx, hb, hml, hown, hts⟩ (c_DotSheet_isWithin l dC dI sc 0 255 (by first | omega | assumption) (by first | omega | assumption) (by first | omega | assumption) (by first | omega | assumption) (by first | omega | assumption) (by first | omega | assumption)) (va_cwS 3 hts (gS t_151 t_152 t_1 t_153) rfl rfl rfl (by decide +kernel) ⟨Nat.le_of_ble_eq_true rfl, Nat.le_of_ble_eq_true rfl⟩) ⟨zPr_blind, zPr_pre hP hK [] [] rfl rfl⟩ rfl rfl hl.1 rfl (lv_room (Nat.le_of_ble_eq_true rfl)) d_D_text_20 ⟨Nat.le_of_ble_eq_true rfl, Nat.le_of_ble_eq_true rfl⟩).run (fun r_20 q_20 => ?_)
    obtain rfl := q_20
    refine zb_if_eq (tgt := 30) hx hb d_D_text_23 (by decide) (fun c_23 => ?_) (fun c_23 => ?_)
    · have c_23 := of_decide_eq_false c_23
      refine lv_iconst (v := iZ (0)) hx hb d_D_text_30 rfl ?_
      refine zx_v (w1 := fun (u_31 : Unit) => []) (wr := [(hx_, .inr (4, [.ref hp, .ref hst, .ref hd, .ref hfa])), (hp, .inr (2, [.int (iZ w), .int (iZ h), .int (iZ mn), .ref hw, .ref hs, .ref hk])), (hw, .inl (cL, 16384, .inr (.inl (aL G)))), (hd, .inr (0, [.int (iZ n), .ref hy])), (hy, .inl (cB, 4096, .inl (aI Y))), (hst, .inr (3, [.ref hp, .int (iZ sx), .int (iZ sy), .int (iZ sq), .int (iZ sl), .int (iZ sp), .int (iZ sr), .int (iZ sb)])), (hfa, .inl (cF, 4, .inr (.inr (.inr (.inr (aQ Fq)))))), (hf, .inr (1, [.int (iZ fw), .int (iZ fh), .int (iZ fg), .ref hrw])), (hrw, .inl (cI, 8192, .inl (aI X)))]) (vx_runS (As := [.int (bI false)]) (rest := []) ⟨hx, hb, hml, hown, hts⟩ (c_DotSheet_demand l hnt dC dI sa false H.size ) (va_cwS 1 hts (gS t_154 t_155 t_1 t_156) rfl rfl rfl (by decide +kernel) ⟨Nat.le_of_ble_eq_true rfl, Nat.le_of_ble_eq_true rfl⟩) ⟨zPx_blind, zPx_pre hP hD hK hXK hS hA [] [] rfl rfl rfl rfl⟩ rfl rfl hl.1 rfl (lv_room (Nat.le_of_ble_eq_true rfl)) d_D_text_31 ⟨Nat.le_of_ble_eq_true rfl, Nat.le_of_ble_eq_true rfl⟩) hP hD hS hA [] [0, 1, 2, 3, 4, 5, 6, 7, 8] rfl rfl rfl (by decide) (fun E_ ce_ q9_ H locs x_31 hP hD hS hce hcv hcl => ?_) (fun u_31 H locs q_31 hP hD hS => ?_)
      · have hP : va_P (dC, dI) vwCl [(hx_, .inr (4, [.ref hp, .ref hst, .ref hd, .ref hfa])), (hp, .inr (2, [.int (iZ w), .int (iZ h), .int (iZ mn), .ref hw, .ref hs, .ref hk])), (hw, .inl (cL, 16384, .inr (.inl (aL G)))), (hd, .inr (0, [.int (iZ n), .ref hy])), (hy, .inl (cB, 4096, .inl (aI Y))), (hst, .inr (3, [.ref hp, .int (iZ sx), .int (iZ sy), .int (iZ sq), .int (iZ sl), .int (iZ sp), .int (iZ sr), .int (iZ sb)])), (hfa, .inl (cF, 4, .inr (.inr (.inr (.inr (aQ Fq)))))), (hf, .inr (1, [.int (iZ fw), .int (iZ fh), .int (iZ fg), .ref hrw])), (hrw, .inl (cI, 8192, .inl (aI X)))] H := hP
        have hD : va_D A [(hx_, .inr (4, [.ref hp, .ref hst, .ref hd, .ref hfa])), (hp, .inr (2, [.int (iZ w), .int (iZ h), .int (iZ mn), .ref hw, .ref hs, .ref hk])), (hw, .inl (cL, 16384, .inr (.inl (aL G)))), (hd, .inr (0, [.int (iZ n), .ref hy])), (hy, .inl (cB, 4096, .inl (aI Y))), (hst, .inr (3, [.ref hp, .int (iZ sx), .int (iZ sy), .int (iZ sq), .int (iZ sl), .int (iZ sp), .int (iZ sr), .int (iZ sb)])), (hfa, .inl (cF, 4, .inr (.inr (.inr (.inr (aQ Fq)))))), (hf, .inr (1, [.int (iZ fw), .int (iZ fh), .int (iZ fg), .ref hrw])), (hrw, .inl (cI, 8192, .inl (aI X)))] := hD
        exact vx_out (fun x9 h9 => (noEx x9 h9).elim) hlocks hce hcv hcl (fun t ht ha => ⟨(), trivial, ⟨⟨x_31.1, by omega⟩, by rw [ht]; exact hP, va_K.moved ha hK, hD⟩, hS.F ht⟩) hS.2.2 (Nat.le_of_ble_eq_true rfl) (Nat.le_of_ble_eq_true rfl)
      exact absurd q_31 (by decide)
    · have c_23 := of_decide_eq_true c_23
      refine lv_iconst (v := iZ (1)) hx hb d_D_text_26 rfl ?_
      refine lv_goto (tgt := 31) hx hb d_D_text_27 (by decide) ?_
      refine zx_v (w1 := fun (u_31 : Unit) => []) (wr := [(hx_, .inr (4, [.ref hp, .ref hst, .ref hd, .ref hfa])), (hp, .inr (2, [.int (iZ w), .int (iZ h), .int (iZ mn), .ref hw, .ref hs, .ref hk])), (hw, .inl (cL, 16384, .inr (.inl (aL G)))), (hd, .inr (0, [.int (iZ n), .ref hy])), (hy, .inl (cB, 4096, .inl (aI Y))), (hst, .inr (3, [.ref hp, .int (iZ sx), .int (iZ sy), .int (iZ sq), .int (iZ sl), .int (iZ sp), .int (iZ sr), .int (iZ sb)])), (hfa, .inl (cF, 4, .inr (.inr (.inr (.inr (aQ Fq)))))), (hf, .inr (1, [.int (iZ fw), .int (iZ fh), .int (iZ fg), .ref hrw])), (hrw, .inl (cI, 8192, .inl (aI X)))]) (vx_runS (As := [.int (bI true)]) (rest := []) ⟨hx, hb, hml, hown, hts⟩ (c_DotSheet_demand l hnt dC dI sa true H.size ) (va_cwS 1 hts (gS t_154 t_155 t_1 t_156) rfl rfl rfl (by decide +kernel) ⟨Nat.le_of_ble_eq_true rfl, Nat.le_of_ble_eq_true rfl⟩) ⟨zPx_blind, zPx_pre hP hD hK hXK hS hA [] [] rfl rfl rfl rfl⟩ rfl rfl hl.1 rfl (lv_room (Nat.le_of_ble_eq_true rfl)) d_D_text_31 ⟨Nat.le_of_ble_eq_true rfl, Nat.le_of_ble_eq_true rfl⟩) hP hD hS hA [] [0, 1, 2, 3, 4, 5, 6, 7, 8] rfl rfl rfl (by decide) (fun E_ ce_ q9_ H locs x_31 hP hD hS hce hcv hcl => ?_) (fun u_31 H locs q_31 hP hD hS => ?_)
      · exact absurd x_31.2 (by decide)
      have hP : va_P (dC, dI) vwCl [(hx_, .inr (4, [.ref hp, .ref hst, .ref hd, .ref hfa])), (hp, .inr (2, [.int (iZ w), .int (iZ h), .int (iZ mn), .ref hw, .ref hs, .ref hk])), (hw, .inl (cL, 16384, .inr (.inl (aL G)))), (hd, .inr (0, [.int (iZ n), .ref hy])), (hy, .inl (cB, 4096, .inl (aI Y))), (hst, .inr (3, [.ref hp, .int (iZ sx), .int (iZ sy), .int (iZ sq), .int (iZ sl), .int (iZ sp), .int (iZ sr), .int (iZ sb)])), (hfa, .inl (cF, 4, .inr (.inr (.inr (.inr (aQ Fq)))))), (hf, .inr (1, [.int (iZ fw), .int (iZ fh), .int (iZ fg), .ref hrw])), (hrw, .inl (cI, 8192, .inl (aI X)))] H := hP
      have hD : va_D A [(hx_, .inr (4, [.ref hp, .ref hst, .ref hd, .ref hfa])), (hp, .inr (2, [.int (iZ w), .int (iZ h), .int (iZ mn), .ref hw, .ref hs, .ref hk])), (hw, .inl (cL, 16384, .inr (.inl (aL G)))), (hd, .inr (0, [.int (iZ n), .ref hy])), (hy, .inl (cB, 4096, .inl (aI Y))), (hst, .inr (3, [.ref hp, .int (iZ sx), .int (iZ sy), .int (iZ sq), .int (iZ sl), .int (iZ sp), .int (iZ sr), .int (iZ sb)])), (hfa, .inl (cF, 4, .inr (.inr (.inr (.inr (aQ Fq)))))), (hf, .inr (1, [.int (iZ fw), .int (iZ fh), .int (iZ fg), .ref hrw])), (hrw, .inl (cI, 8192, .inl (aI X)))] := hD
      refine lv_iload hx hb d_D_text_34 (lv_at hl 4 rfl) ?_
      refine lv_iconst (v := iZ (4)) hx hb d_D_text_36 rfl ?_
      refine lv_ishr hx hb d_D_text_37 ?_
      refine zn_eq (v2 := .int (iZ (sc / 16))) (congrArg _ (iZ_shr (s := 4) (by omega) (by omega) (by decide) (by decide))) ?_
      refine zn_z (fun pa e_pa => ?_)
      refine lv_istore (lv' := [(6, .int (iZ pa)), (0, .ref hx_), (1, .int (iZ x)), (2, .int (iZ y)), (3, .int (iZ f)), (4, .int (iZ sc)), (5, .int (iZ qr))]) hx hb d_D_text_38 hl (by decide) rfl (fun ls hl => ?_)
      refine lv_iload hx hb d_D_text_40 (lv_at hl 5 rfl) ?_
      refine lv_bipush (v := iZ (15)) hx hb d_D_text_42 (by decide) ?_
      refine lv_iand hx hb d_D_text_44 ?_
      refine zn_eq (v2 := .int (iZ (sc % 16))) (congrArg _ (iZ_and15 (by omega) (by omega))) ?_
      refine zn_z (fun qa e_qa => ?_)
      refine lv_istore (lv' := [(7, .int (iZ qa)), (6, .int (iZ pa)), (0, .ref hx_), (1, .int (iZ x)), (2, .int (iZ y)), (3, .int (iZ f)), (4, .int (iZ sc)), (5, .int (iZ qr))]) hx hb d_D_text_45 hl (by decide) rfl (fun ls hl => ?_)
      refine lv_iload hx hb d_D_text_47 (lv_at hl 1 rfl) ?_
      refine lv_iconst (v := iZ (1)) hx hb d_D_text_49 rfl ?_
      refine lv_bipush (v := iZ (10)) hx hb d_D_text_50 (by decide) ?_
      refine vp_callSi (va_runS (As := [.int (iZ pa), .int (iZ 1), .int (iZ 10)]) (rest := []) ⟨hx, hb, hml, hown, hts⟩ (c_DotSheet_isWithin l dC dI pa 1 10 (by first | omega | assumption) (by first | omega | assumption) (by first | omega | assumption) (by first | omega | assumption) (by first | omega | assumption) (by first | omega | assumption)) (va_cwS 3 hts (gS t_151 t_152 t_1 t_153) rfl rfl rfl (by decide +kernel) ⟨Nat.le_of_ble_eq_true rfl, Nat.le_of_ble_eq_true rfl⟩) ⟨zPr_blind, zPr_pre hP hK [] [] rfl rfl⟩ rfl rfl hl.1 rfl (lv_room (Nat.le_of_ble_eq_true rfl)) d_D_text_52 ⟨Nat.le_of_ble_eq_true rfl, Nat.le_of_ble_eq_true rfl⟩).run (fun r_52 q_52 => ?_)
      obtain rfl := q_52
      refine zb_if_eq (tgt := 73) hx hb d_D_text_55 (by decide) (fun c_55 => ?_) (fun c_55 => ?_)
      · have c_55 := of_decide_eq_false c_55
        refine lv_iconst (v := iZ (0)) hx hb d_D_text_73 rfl ?_
        refine zx_v (w1 := fun (u_74 : Unit) => []) (wr := [(hx_, .inr (4, [.ref hp, .ref hst, .ref hd, .ref hfa])), (hp, .inr (2, [.int (iZ w), .int (iZ h), .int (iZ mn), .ref hw, .ref hs, .ref hk])), (hw, .inl (cL, 16384, .inr (.inl (aL G)))), (hd, .inr (0, [.int (iZ n), .ref hy])), (hy, .inl (cB, 4096, .inl (aI Y))), (hst, .inr (3, [.ref hp, .int (iZ sx), .int (iZ sy), .int (iZ sq), .int (iZ sl), .int (iZ sp), .int (iZ sr), .int (iZ sb)])), (hfa, .inl (cF, 4, .inr (.inr (.inr (.inr (aQ Fq)))))), (hf, .inr (1, [.int (iZ fw), .int (iZ fh), .int (iZ fg), .ref hrw])), (hrw, .inl (cI, 8192, .inl (aI X)))]) (vx_runS (As := [.int (bI false)]) (rest := []) ⟨hx, hb, hml, hown, hts⟩ (c_DotSheet_demand l hnt dC dI sa false H.size ) (va_cwS 1 hts (gS t_154 t_155 t_1 t_156) rfl rfl rfl (by decide +kernel) ⟨Nat.le_of_ble_eq_true rfl, Nat.le_of_ble_eq_true rfl⟩) ⟨zPx_blind, zPx_pre hP hD hK hXK hS hA [] [] rfl rfl rfl rfl⟩ rfl rfl hl.1 rfl (lv_room (Nat.le_of_ble_eq_true rfl)) d_D_text_74 ⟨Nat.le_of_ble_eq_true rfl, Nat.le_of_ble_eq_true rfl⟩) hP hD hS hA [] [0, 1, 2, 3, 4, 5, 6, 7, 8] rfl rfl rfl (by decide) (fun E_ ce_ q9_ H locs x_74 hP hD hS hce hcv hcl => ?_) (fun u_74 H locs q_74 hP hD hS => ?_)
        · have hP : va_P (dC, dI) vwCl [(hx_, .inr (4, [.ref hp, .ref hst, .ref hd, .ref hfa])), (hp, .inr (2, [.int (iZ w), .int (iZ h), .int (iZ mn), .ref hw, .ref hs, .ref hk])), (hw, .inl (cL, 16384, .inr (.inl (aL G)))), (hd, .inr (0, [.int (iZ n), .ref hy])), (hy, .inl (cB, 4096, .inl (aI Y))), (hst, .inr (3, [.ref hp, .int (iZ sx), .int (iZ sy), .int (iZ sq), .int (iZ sl), .int (iZ sp), .int (iZ sr), .int (iZ sb)])), (hfa, .inl (cF, 4, .inr (.inr (.inr (.inr (aQ Fq)))))), (hf, .inr (1, [.int (iZ fw), .int (iZ fh), .int (iZ fg), .ref hrw])), (hrw, .inl (cI, 8192, .inl (aI X)))] H := hP
          have hD : va_D A [(hx_, .inr (4, [.ref hp, .ref hst, .ref hd, .ref hfa])), (hp, .inr (2, [.int (iZ w), .int (iZ h), .int (iZ mn), .ref hw, .ref hs, .ref hk])), (hw, .inl (cL, 16384, .inr (.inl (aL G)))), (hd, .inr (0, [.int (iZ n), .ref hy])), (hy, .inl (cB, 4096, .inl (aI Y))), (hst, .inr (3, [.ref hp, .int (iZ sx), .int (iZ sy), .int (iZ sq), .int (iZ sl), .int (iZ sp), .int (iZ sr), .int (iZ sb)])), (hfa, .inl (cF, 4, .inr (.inr (.inr (.inr (aQ Fq)))))), (hf, .inr (1, [.int (iZ fw), .int (iZ fh), .int (iZ fg), .ref hrw])), (hrw, .inl (cI, 8192, .inl (aI X)))] := hD
          exact vx_out (fun x9 h9 => (noEx x9 h9).elim) hlocks hce hcv hcl (fun t ht ha => ⟨(), trivial, ⟨⟨x_74.1, by omega⟩, by rw [ht]; exact hP, va_K.moved ha hK, hD⟩, hS.F ht⟩) hS.2.2 (Nat.le_of_ble_eq_true rfl) (Nat.le_of_ble_eq_true rfl)
        exact absurd q_74 (by decide)
      · have c_55 := of_decide_eq_true c_55
        refine lv_iload hx hb d_D_text_58 (lv_at hl 0 rfl) ?_
        refine lv_iconst (v := iZ (1)) hx hb d_D_text_60 rfl ?_
        refine lv_bipush (v := iZ (10)) hx hb d_D_text_61 (by decide) ?_
        refine vp_callSi (va_runS (As := [.int (iZ qa), .int (iZ 1), .int (iZ 10)]) (rest := []) ⟨hx, hb, hml, hown, hts⟩ (c_DotSheet_isWithin l dC dI qa 1 10 (by first | omega | assumption) (by first | omega | assumption) (by first | omega | assumption) (by first | omega | assumption) (by first | omega | assumption) (by first | omega | assumption)) (va_cwS 3 hts (gS t_151 t_152 t_1 t_153) rfl rfl rfl (by decide +kernel) ⟨Nat.le_of_ble_eq_true rfl, Nat.le_of_ble_eq_true rfl⟩) ⟨zPr_blind, zPr_pre hP hK [] [] rfl rfl⟩ rfl rfl hl.1 rfl (lv_room (Nat.le_of_ble_eq_true rfl)) d_D_text_63 ⟨Nat.le_of_ble_eq_true rfl, Nat.le_of_ble_eq_true rfl⟩).run (fun r_63 q_63 => ?_)
        obtain rfl := q_63
        refine zb_if_eq (tgt := 73) hx hb d_D_text_66 (by decide) (fun c_66 => ?_) (fun c_66 => ?_)
        · have c_66 := of_decide_eq_false c_66
          refine lv_iconst (v := iZ (0)) hx hb d_D_text_73 rfl ?_
          refine zx_v (w1 := fun (u_74 : Unit) => []) (wr := [(hx_, .inr (4, [.ref hp, .ref hst, .ref hd, .ref hfa])), (hp, .inr (2, [.int (iZ w), .int (iZ h), .int (iZ mn), .ref hw, .ref hs, .ref hk])), (hw, .inl (cL, 16384, .inr (.inl (aL G)))), (hd, .inr (0, [.int (iZ n), .ref hy])), (hy, .inl (cB, 4096, .inl (aI Y))), (hst, .inr (3, [.ref hp, .int (iZ sx), .int (iZ sy), .int (iZ sq), .int (iZ sl), .int (iZ sp), .int (iZ sr), .int (iZ sb)])), (hfa, .inl (cF, 4, .inr (.inr (.inr (.inr (aQ Fq)))))), (hf, .inr (1, [.int (iZ fw), .int (iZ fh), .int (iZ fg), .ref hrw])), (hrw, .inl (cI, 8192, .inl (aI X)))]) (vx_runS (As := [.int (bI false)]) (rest := []) ⟨hx, hb, hml, hown, hts⟩ (c_DotSheet_demand l hnt dC dI sa false H.size ) (va_cwS 1 hts (gS t_154 t_155 t_1 t_156) rfl rfl rfl (by decide +kernel) ⟨Nat.le_of_ble_eq_true rfl, Nat.le_of_ble_eq_true rfl⟩) ⟨zPx_blind, zPx_pre hP hD hK hXK hS hA [] [] rfl rfl rfl rfl⟩ rfl rfl hl.1 rfl (lv_room (Nat.le_of_ble_eq_true rfl)) d_D_text_74 ⟨Nat.le_of_ble_eq_true rfl, Nat.le_of_ble_eq_true rfl⟩) hP hD hS hA [] [0, 1, 2, 3, 4, 5, 6, 7, 8] rfl rfl rfl (by decide) (fun E_ ce_ q9_ H locs x_74 hP hD hS hce hcv hcl => ?_) (fun u_74 H locs q_74 hP hD hS => ?_)
          · have hP : va_P (dC, dI) vwCl [(hx_, .inr (4, [.ref hp, .ref hst, .ref hd, .ref hfa])), (hp, .inr (2, [.int (iZ w), .int (iZ h), .int (iZ mn), .ref hw, .ref hs, .ref hk])), (hw, .inl (cL, 16384, .inr (.inl (aL G)))), (hd, .inr (0, [.int (iZ n), .ref hy])), (hy, .inl (cB, 4096, .inl (aI Y))), (hst, .inr (3, [.ref hp, .int (iZ sx), .int (iZ sy), .int (iZ sq), .int (iZ sl), .int (iZ sp), .int (iZ sr), .int (iZ sb)])), (hfa, .inl (cF, 4, .inr (.inr (.inr (.inr (aQ Fq)))))), (hf, .inr (1, [.int (iZ fw), .int (iZ fh), .int (iZ fg), .ref hrw])), (hrw, .inl (cI, 8192, .inl (aI X)))] H := hP
            have hD : va_D A [(hx_, .inr (4, [.ref hp, .ref hst, .ref hd, .ref hfa])), (hp, .inr (2, [.int (iZ w), .int (iZ h), .int (iZ mn), .ref hw, .ref hs, .ref hk])), (hw, .inl (cL, 16384, .inr (.inl (aL G)))), (hd, .inr (0, [.int (iZ n), .ref hy])), (hy, .inl (cB, 4096, .inl (aI Y))), (hst, .inr (3, [.ref hp, .int (iZ sx), .int (iZ sy), .int (iZ sq), .int (iZ sl), .int (iZ sp), .int (iZ sr), .int (iZ sb)])), (hfa, .inl (cF, 4, .inr (.inr (.inr (.inr (aQ Fq)))))), (hf, .inr (1, [.int (iZ fw), .int (iZ fh), .int (iZ fg), .ref hrw])), (hrw, .inl (cI, 8192, .inl (aI X)))] := hD
            exact vx_out (fun x9 h9 => (noEx x9 h9).elim) hlocks hce hcv hcl (fun t ht ha => ⟨(), trivial, ⟨⟨x_74.1, by omega⟩, by rw [ht]; exact hP, va_K.moved ha hK, hD⟩, hS.F ht⟩) hS.2.2 (Nat.le_of_ble_eq_true rfl) (Nat.le_of_ble_eq_true rfl)
          exact absurd q_74 (by decide)
        · have c_66 := of_decide_eq_true c_66
          refine lv_iconst (v := iZ (1)) hx hb d_D_text_69 rfl ?_
          refine lv_goto (tgt := 74) hx hb d_D_text_70 (by decide) ?_
          refine zx_v (w1 := fun (u_74 : Unit) => []) (wr := [(hx_, .inr (4, [.ref hp, .ref hst, .ref hd, .ref hfa])), (hp, .inr (2, [.int (iZ w), .int (iZ h), .int (iZ mn), .ref hw, .ref hs, .ref hk])), (hw, .inl (cL, 16384, .inr (.inl (aL G)))), (hd, .inr (0, [.int (iZ n), .ref hy])), (hy, .inl (cB, 4096, .inl (aI Y))), (hst, .inr (3, [.ref hp, .int (iZ sx), .int (iZ sy), .int (iZ sq), .int (iZ sl), .int (iZ sp), .int (iZ sr), .int (iZ sb)])), (hfa, .inl (cF, 4, .inr (.inr (.inr (.inr (aQ Fq)))))), (hf, .inr (1, [.int (iZ fw), .int (iZ fh), .int (iZ fg), .ref hrw])), (hrw, .inl (cI, 8192, .inl (aI X)))]) (vx_runS (As := [.int (bI true)]) (rest := []) ⟨hx, hb, hml, hown, hts⟩ (c_DotSheet_demand l hnt dC dI sa true H.size ) (va_cwS 1 hts (gS t_154 t_155 t_1 t_156) rfl rfl rfl (by decide +kernel) ⟨Nat.le_of_ble_eq_true rfl, Nat.le_of_ble_eq_true rfl⟩) ⟨zPx_blind, zPx_pre hP hD hK hXK hS hA [] [] rfl rfl rfl rfl⟩ rfl rfl hl.1 rfl (lv_room (Nat.le_of_ble_eq_true rfl)) d_D_text_74 ⟨Nat.le_of_ble_eq_true rfl, Nat.le_of_ble_eq_true rfl⟩) hP hD hS hA [] [0, 1, 2, 3, 4, 5, 6, 7, 8] rfl rfl rfl (by decide) (fun E_ ce_ q9_ H locs x_74 hP hD hS hce hcv hcl => ?_) (fun u_74 H locs q_74 hP hD hS => ?_)
          · exact absurd x_74.2 (by decide)
          have hP : va_P (dC, dI) vwCl [(hx_, .inr (4, [.ref hp, .ref hst, .ref hd, .ref hfa])), (hp, .inr (2, [.int (iZ w), .int (iZ h), .int (iZ mn), .ref hw, .ref hs, .ref hk])), (hw, .inl (cL, 16384, .inr (.inl (aL G)))), (hd, .inr (0, [.int (iZ n), .ref hy])), (hy, .inl (cB, 4096, .inl (aI Y))), (hst, .inr (3, [.ref hp, .int (iZ sx), .int (iZ sy), .int (iZ sq), .int (iZ sl), .int (iZ sp), .int (iZ sr), .int (iZ sb)])), (hfa, .inl (cF, 4, .inr (.inr (.inr (.inr (aQ Fq)))))), (hf, .inr (1, [.int (iZ fw), .int (iZ fh), .int (iZ fg), .ref hrw])), (hrw, .inl (cI, 8192, .inl (aI X)))] H := hP
          have hD : va_D A [(hx_, .inr (4, [.ref hp, .ref hst, .ref hd, .ref hfa])), (hp, .inr (2, [.int (iZ w), .int (iZ h), .int (iZ mn), .ref hw, .ref hs, .ref hk])), (hw, .inl (cL, 16384, .inr (.inl (aL G)))), (hd, .inr (0, [.int (iZ n), .ref hy])), (hy, .inl (cB, 4096, .inl (aI Y))), (hst, .inr (3, [.ref hp, .int (iZ sx), .int (iZ sy), .int (iZ sq), .int (iZ sl), .int (iZ sp), .int (iZ sr), .int (iZ sb)])), (hfa, .inl (cF, 4, .inr (.inr (.inr (.inr (aQ Fq)))))), (hf, .inr (1, [.int (iZ fw), .int (iZ fh), .int (iZ fg), .ref hrw])), (hrw, .inl (cI, 8192, .inl (aI X)))] := hD
          refine lv_aload_n hx hb d_D_text_77 rfl (lv_at hl 2 rfl) ?_
          refine va_get (D := (dC, dI)) (ci := 4) (v := .ref hst) (C := R_D) (T := T_D) (N := 4) hx hb hts wi_D hown hK hP 0 rfl rfl 1 (by decide) (hts _ t_127) (fun _ h9 => h9) rfl d_D_text_78 ?_
          refine lv_iload_n hx hb d_D_text_81 rfl (lv_at hl 3 rfl) ?_
          refine lv_iload_n hx hb d_D_text_82 rfl (lv_at hl 4 rfl) ?_
          refine lv_iload hx hb d_D_text_83 (lv_at hl 7 rfl) ?_
          refine zc_v (w1 := fun (u_85 : Unit) => [(hst, .inr (3, [.ref hp, .int (iZ x), .int (iZ y), .int (iZ qr), .int (iZ sl), .int (iZ sp), .int (iZ sr), .int (iZ sb)]))]) (wr := [(hx_, .inr (4, [.ref hp, .ref hst, .ref hd, .ref hfa])), (hp, .inr (2, [.int (iZ w), .int (iZ h), .int (iZ mn), .ref hw, .ref hs, .ref hk])), (hw, .inl (cL, 16384, .inr (.inl (aL G)))), (hd, .inr (0, [.int (iZ n), .ref hy])), (hy, .inl (cB, 4096, .inl (aI Y))), (hfa, .inl (cF, 4, .inr (.inr (.inr (.inr (aQ Fq)))))), (hf, .inr (1, [.int (iZ fw), .int (iZ fh), .int (iZ fg), .ref hrw])), (hrw, .inl (cI, 8192, .inl (aI X)))]) (va_runV (As := [.int (iZ x), .int (iZ y), .int (iZ qr)]) (rest := []) ⟨hx, hb, hml, hown, hts⟩ (c_Steps_startAt l dC dI hst hp sx sy sq sl sp sr sb x y qr H.size ) (cwV 3 hts (gV t_473 t_474 t_475 t_3 t_476) rfl rfl rfl (by decide +kernel) ⟨Nat.le_of_ble_eq_true rfl, Nat.le_of_ble_eq_true rfl⟩) ⟨zPm_blind, va_recv hK hP (ci := 3) (q0 := 5) rfl rfl, zPm_pre hP hD hK [5] [] rfl rfl rfl rfl⟩ rfl rfl hl.1 rfl (lv_room (Nat.le_of_ble_eq_true rfl)) d_D_text_85 ⟨Nat.le_of_ble_eq_true rfl, Nat.le_of_ble_eq_true rfl⟩) hP hD hS hA [5] [0, 1, 2, 3, 4, 6, 7, 8] rfl rfl rfl (by decide) (fun u_85 H locs q_85 hP hD hS => ?_)
          have hP : va_P (dC, dI) vwCl [(hx_, .inr (4, [.ref hp, .ref hst, .ref hd, .ref hfa])), (hp, .inr (2, [.int (iZ w), .int (iZ h), .int (iZ mn), .ref hw, .ref hs, .ref hk])), (hw, .inl (cL, 16384, .inr (.inl (aL G)))), (hd, .inr (0, [.int (iZ n), .ref hy])), (hy, .inl (cB, 4096, .inl (aI Y))), (hfa, .inl (cF, 4, .inr (.inr (.inr (.inr (aQ Fq)))))), (hf, .inr (1, [.int (iZ fw), .int (iZ fh), .int (iZ fg), .ref hrw])), (hrw, .inl (cI, 8192, .inl (aI X))), (hst, .inr (3, [.ref hp, .int (iZ x), .int (iZ y), .int (iZ qr), .int (iZ sl), .int (iZ sp), .int (iZ sr), .int (iZ sb)]))] H := hP
          have hD : va_D A [(hx_, .inr (4, [.ref hp, .ref hst, .ref hd, .ref hfa])), (hp, .inr (2, [.int (iZ w), .int (iZ h), .int (iZ mn), .ref hw, .ref hs, .ref hk])), (hw, .inl (cL, 16384, .inr (.inl (aL G)))), (hd, .inr (0, [.int (iZ n), .ref hy])), (hy, .inl (cB, 4096, .inl (aI Y))), (hfa, .inl (cF, 4, .inr (.inr (.inr (.inr (aQ Fq)))))), (hf, .inr (1, [.int (iZ fw), .int (iZ fh), .int (iZ fg), .ref hrw])), (hrw, .inl (cI, 8192, .inl (aI X))), (hst, .inr (3, [.ref hp, .int (iZ x), .int (iZ y), .int (iZ qr), .int (iZ sl), .int (iZ sp), .int (iZ sr), .int (iZ sb)]))] := hD
          refine lv_aload_n hx hb d_D_text_88 rfl (lv_at hl 2 rfl) ?_
          refine va_get (D := (dC, dI)) (ci := 4) (v := .ref hfa) (C := R_D) (T := T_D) (N := 4) hx hb hts wi_D hown hK hP 0 rfl rfl 3 (by decide) (hts _ t_129) (fun _ h9 => h9) rfl d_D_text_89 ?_
          refine lv_iload_n hx hb d_D_text_92 rfl (lv_at hl 5 rfl) ?_
          refine z_aldq hx hb hK hP 5 2 rfl rfl (by omega) (by omega) (by omega) (v := hf) (hq (by omega)) d_D_text_93 ?_
          refine lv_astore (lv' := [(8, .ref hf), (7, .int (iZ qa)), (6, .int (iZ pa)), (0, .ref hx_), (1, .int (iZ x)), (2, .int (iZ y)), (3, .int (iZ f)), (4, .int (iZ sc)), (5, .int (iZ qr))]) hx hb d_D_text_94 hl (by decide) rfl (fun ls hl => ?_)
          refine lv_iload hx hb d_D_text_96 (lv_at hl 2 rfl) ?_
          refine lv_aload hx hb d_D_text_98 (lv_at hl 0 rfl) ?_
          refine va_get (D := (dC, dI)) (ci := 1) (v := .int (iZ fw)) (C := R_Fo) (T := T_Fo) (N := 4) hx hb hts wi_Fo hown hK hP 6 rfl rfl 0 (by decide) (hts _ t_110) (fun _ h9 => h9) rfl d_D_text_100 ?_
          refine lv_aload hx hb d_D_text_103 (lv_at hl 0 rfl) ?_
          refine va_get (D := (dC, dI)) (ci := 1) (v := .int (iZ fg)) (C := R_Fo) (T := T_Fo) (N := 4) hx hb hts wi_Fo hown hK hP 6 rfl rfl 2 (by decide) (hts _ t_114) (fun _ h9 => h9) rfl d_D_text_105 ?_
          refine zi_add hx hb d_D_text_108 ?_
          refine zi_mul hx hb d_D_text_109 ?_
          refine zn_z (fun adv e_adv => ?_)
          refine lv_istore (lv' := [(9, .int (iZ adv)), (8, .ref hf), (7, .int (iZ qa)), (6, .int (iZ pa)), (0, .ref hx_), (1, .int (iZ x)), (2, .int (iZ y)), (3, .int (iZ f)), (4, .int (iZ sc)), (5, .int (iZ qr))]) hx hb d_D_text_110 hl (by decide) rfl (fun ls hl => ?_)
          have ma9 := mul_in (m := pa) (c := fw + fg) (M := 10) (C := 64) (by omega) (by omega) (by omega) (by omega)
          have mb9 := mul_in (m := pa) (c := fw) (M := 10) (C := 32) (by omega) (by omega) (by omega) (by omega)
          have mc9 := mul_in (m := qa) (c := fh) (M := 10) (C := 32) (by omega) (by omega) (by omega) (by omega)
          refine lv_iconst (v := iZ (0)) hx hb d_D_text_112 rfl ?_
          refine lv_istore (lv' := [(10, .int (iZ 0)), (9, .int (iZ adv)), (8, .ref hf), (7, .int (iZ qa)), (6, .int (iZ pa)), (0, .ref hx_), (1, .int (iZ x)), (2, .int (iZ y)), (3, .int (iZ f)), (4, .int (iZ sc)), (5, .int (iZ qr))]) hx hb d_D_text_113 hl (by decide) rfl (fun ls hl => ?_)
          refine lv_iconst (v := iZ (0)) hx hb d_D_text_115 rfl ?_
          refine lv_istore (lv' := [(11, .int (iZ 0)), (10, .int (iZ 0)), (9, .int (iZ adv)), (8, .ref hf), (7, .int (iZ qa)), (6, .int (iZ pa)), (0, .ref hx_), (1, .int (iZ x)), (2, .int (iZ y)), (3, .int (iZ f)), (4, .int (iZ sc)), (5, .int (iZ qr))]) hx hb d_D_text_116 hl (by decide) rfl (fun ls hl => ?_)
          have LP_118 : ∀ (n_118 : Nat) (k_ : Int) (dn : Int) (K : Int → Int64) (s1 : Int) (s2 : Int) (s3 : Int) (s4 : Int), (0 ≤ k_) → (k_ ≤ n) → (acI w h mn (txP X dr n fw fh fg pa qa qr x y k_) pic K dn) → (n - k_).toNat < n_118 → ∀ (H : Heap) (locs : List Loc), va_P (dC, dI) vwCl [(hx_, .inr (4, [.ref hp, .ref hst, .ref hd, .ref hfa])), (hp, .inr (2, [.int (iZ w), .int (iZ h), .int (iZ mn), .ref hw, .ref hs, .ref hk])), (hw, .inl (cL, 16384, .inr (.inl (aL K)))), (hd, .inr (0, [.int (iZ n), .ref hy])), (hy, .inl (cB, 4096, .inl (aI Y))), (hst, .inr (3, [.ref hp, .int (iZ x), .int (iZ y), .int (iZ qr), .int (iZ s1), .int (iZ s2), .int (iZ s3), .int (iZ s4)])), (hfa, .inl (cF, 4, .inr (.inr (.inr (.inr (aQ Fq)))))), (hf, .inr (1, [.int (iZ fw), .int (iZ fh), .int (iZ fg), .ref hrw])), (hrw, .inl (cI, 8192, .inl (aI X)))] H → va_D A [(hx_, .inr (4, [.ref hp, .ref hst, .ref hd, .ref hfa])), (hp, .inr (2, [.int (iZ w), .int (iZ h), .int (iZ mn), .ref hw, .ref hs, .ref hk])), (hw, .inl (cL, 16384, .inr (.inl (aL K)))), (hd, .inr (0, [.int (iZ n), .ref hy])), (hy, .inl (cB, 4096, .inl (aI Y))), (hst, .inr (3, [.ref hp, .int (iZ x), .int (iZ y), .int (iZ qr), .int (iZ s1), .int (iZ s2), .int (iZ s3), .int (iZ s4)])), (hfa, .inl (cF, 4, .inr (.inr (.inr (.inr (aQ Fq)))))), (hf, .inr (1, [.int (iZ fw), .int (iZ fh), .int (iZ fg), .ref hrw])), (hrw, .inl (cI, 8192, .inl (aI X)))] → va_S A s.heap H locs → ∀ (ls : Array Slot), lv_has ls 12 [(0, .ref hx_), (1, .int (iZ x)), (2, .int (iZ y)), (3, .int (iZ f)), (4, .int (iZ sc)), (5, .int (iZ qr)), (6, .int (iZ pa)), (7, .int (iZ qa)), (8, .ref hf), (9, .int (iZ adv)), (10, .int (iZ dn)), (11, .int (iZ k_))] → W p l e ({ frames := 8, cells := 3, slots := 18, locals := 142 } : Room) s m ([.ref hx_, .int (iZ x), .int (iZ y), .int (iZ f), .int (iZ sc), .int (iZ qr)] : List Value).toArray below meth c H locs 3 18 (vx_MQ below (va_Qi (fun (r : Int32) (u : (Int → Int64) × Int × Int × Int × Int) => r = iZ (cnt w h (txB X dr n fw fh fg (sc / 16) (sc % 16) qr x y)) ∧ (-4096 ≤ x ∧ x ≤ 4096 ∧ -4096 ≤ y ∧ y ≤ 4096 ∧ 0 ≤ qr ∧ qr ≤ 3 ∧ 0 ≤ f ∧ f ≤ 3 ∧ 0 ≤ sc ∧ sc ≤ 255 ∧ 1 ≤ sc / 16 ∧ sc / 16 ≤ 10 ∧ 1 ≤ sc % 16 ∧ sc % 16 ≤ 10) ∧ Rep u.1 (drw mn (fun px py => onB w h px py && txB X dr n fw fh fg (sc / 16) (sc % 16) qr x y px py) pic)) (fun u => zB (dC, dI) vwCl [(cL, .long), (cB, .byte), (cF, .object "DotSheet$Font"), (cI, .int)] A [(hx_, .inr (4, [.ref hp, .ref hst, .ref hd, .ref hfa])), (hp, .inr (2, [.int (iZ w), .int (iZ h), .int (iZ mn), .ref hw, .ref hs, .ref hk])), (hw, .inl (cL, 16384, .inr (.inl (aL u.1)))), (hd, .inr (0, [.int (iZ n), .ref hy])), (hy, .inl (cB, 4096, .inl (aI Y))), (hst, .inr (3, [.ref hp, .int (iZ x), .int (iZ y), .int (iZ qr), .int (iZ u.2.1), .int (iZ u.2.2.1), .int (iZ u.2.2.2.1), .int (iZ u.2.2.2.2)])), (hfa, .inl (cF, 4, .inr (.inr (.inr (.inr (aQ Fq)))))), (hf, .inr (1, [.int (iZ fw), .int (iZ fh), .int (iZ fg), .ref hrw])), (hrw, .inl (cI, 8192, .inl (aI X)))]) A) (zX (fun E => E = "java/lang/IllegalArgumentException" ∧ ¬ (-4096 ≤ x ∧ x ≤ 4096 ∧ -4096 ≤ y ∧ y ≤ 4096 ∧ 0 ≤ qr ∧ qr ≤ 3 ∧ 0 ≤ f ∧ f ≤ 3 ∧ 0 ≤ sc ∧ sc ≤ 255 ∧ 1 ≤ sc / 16 ∧ sc / 16 ≤ 10 ∧ 1 ≤ sc % 16 ∧ sc % 16 ≤ 10)) (dC, dI) vwCl [(cL, .long), (cB, .byte), (cF, .object "DotSheet$Font"), (cI, .int)] A [(hx_, .inr (4, [.ref hp, .ref hst, .ref hd, .ref hfa])), (hp, .inr (2, [.int (iZ w), .int (iZ h), .int (iZ mn), .ref hw, .ref hs, .ref hk])), (hw, .inl (cL, 16384, .inr (.inl (aL G)))), (hd, .inr (0, [.int (iZ n), .ref hy])), (hy, .inl (cB, 4096, .inl (aI Y))), (hst, .inr (3, [.ref hp, .int (iZ sx), .int (iZ sy), .int (iZ sq), .int (iZ sl), .int (iZ sp), .int (iZ sr), .int (iZ sb)])), (hfa, .inl (cF, 4, .inr (.inr (.inr (.inr (aQ Fq)))))), (hf, .inr (1, [.int (iZ fw), .int (iZ fh), .int (iZ fg), .ref hrw])), (hrw, .inl (cI, 8192, .inl (aI X)))]) ([.ref hx_, .int (iZ x), .int (iZ y), .int (iZ f), .int (iZ sc), .int (iZ qr)] : List Value).toArray s 3 18 A) (F0 m 118 ls []) := by
            intro n_118
            induction n_118 with
            | zero => intro k_ dn K s1 s2 s3 s4 i1 i2 i3 hm; exact absurd hm (by omega)
            | succ n_118 ih_118 =>
              intro k_ dn K s1 s2 s3 s4 i1 i2 i3 hm_118 H locs hP hD hS ls hl
              have i3b := i3.1
              refine lv_iload hx hb d_D_text_118 (lv_at hl 11 rfl) ?_
              refine lv_aload_n hx hb d_D_text_120 rfl (lv_at hl 0 rfl) ?_
              refine va_get (D := (dC, dI)) (ci := 4) (v := .ref hd) (C := R_D) (T := T_D) (N := 4) hx hb hts wi_D hown hK hP 0 rfl rfl 2 (by decide) (hts _ t_128) (fun _ h9 => h9) rfl d_D_text_121 ?_
              refine va_get (D := (dC, dI)) (ci := 0) (v := .int (iZ n)) (C := R_Dr) (T := T_Dr) (N := 2) hx hb hts wi_Dr hown hK hP 3 rfl rfl 0 (by decide) (hts _ t_94) (fun _ h9 => h9) rfl d_D_text_124 ?_
              refine zi_ge (tgt := 197) hx hb d_D_text_127 (by decide) (by omega) (by omega) (by omega) (by omega) (fun c_127 => ?_) (fun c_127 => ?_)
              · refine lv_iload hx hb d_D_text_197 (lv_at hl 10 rfl) ?_
                refine vx_ret ?_
                exact W.iret hx hb hr (fun t ht hW => ⟨⟨_, ((K, s1, s2, s3, s4)), rfl, ⟨congrArg iZ (by rw [(ac_ext i3 (fun px py _ => tx_end (by omega) px py)).2, e_pa, e_qa]), by omega, by have z9 := (ac_ext i3 (fun px py _ => tx_end (by omega) px py)).1; rw [e_pa, e_qa] at z9; exact z9⟩, by rw [ht]; exact hP, va_K.moved hW.alike hK, hD⟩, hS.F ht⟩) hS.2.2 d_D_text_199
              · have md9 := mul_in (m := k_) (c := adv) (M := 4096) (C := 640) (by omega) (by omega) (by omega) (by omega)
                refine lv_aload_n hx hb d_D_text_130 rfl (lv_at hl 0 rfl) ?_
                refine va_get (D := (dC, dI)) (ci := 4) (v := .ref hst) (C := R_D) (T := T_D) (N := 4) hx hb hts wi_D hown hK hP 0 rfl rfl 1 (by decide) (hts _ t_127) (fun _ h9 => h9) rfl d_D_text_131 ?_
                refine lv_iload hx hb d_D_text_134 (lv_at hl 11 rfl) ?_
                refine lv_iload hx hb d_D_text_136 (lv_at hl 9 rfl) ?_
                refine zi_mul hx hb d_D_text_138 ?_
                refine lv_iconst (v := iZ (0)) hx hb d_D_text_139 rfl ?_
                refine lv_iload hx hb d_D_text_140 (lv_at hl 6 rfl) ?_
                refine lv_aload hx hb d_D_text_142 (lv_at hl 8 rfl) ?_
                refine va_get (D := (dC, dI)) (ci := 1) (v := .int (iZ fw)) (C := R_Fo) (T := T_Fo) (N := 4) hx hb hts wi_Fo hown hK hP 7 rfl rfl 0 (by decide) (hts _ t_110) (fun _ h9 => h9) rfl d_D_text_144 ?_
                refine zi_mul hx hb d_D_text_147 ?_
                refine lv_iload hx hb d_D_text_148 (lv_at hl 7 rfl) ?_
                refine lv_aload hx hb d_D_text_150 (lv_at hl 8 rfl) ?_
                refine va_get (D := (dC, dI)) (ci := 1) (v := .int (iZ fh)) (C := R_Fo) (T := T_Fo) (N := 4) hx hb hts wi_Fo hown hK hP 7 rfl rfl 1 (by decide) (hts _ t_112) (fun _ h9 => h9) rfl d_D_text_152 ?_
                refine zi_mul hx hb d_D_text_155 ?_
                refine zc_i (w1 := fun (u_156 : Int × Int × Int × Int) => [(hst, .inr (3, [.ref hp, .int (iZ x), .int (iZ y), .int (iZ qr), .int (iZ u_156.1), .int (iZ u_156.2.1), .int (iZ u_156.2.2.1), .int (iZ u_156.2.2.2)])), (hp, .inr (2, [.int (iZ w), .int (iZ h), .int (iZ mn), .ref hw, .ref hs, .ref hk]))]) (wr := [(hx_, .inr (4, [.ref hp, .ref hst, .ref hd, .ref hfa])), (hw, .inl (cL, 16384, .inr (.inl (aL K)))), (hd, .inr (0, [.int (iZ n), .ref hy])), (hy, .inl (cB, 4096, .inl (aI Y))), (hfa, .inl (cF, 4, .inr (.inr (.inr (.inr (aQ Fq)))))), (hf, .inr (1, [.int (iZ fw), .int (iZ fh), .int (iZ fg), .ref hrw])), (hrw, .inl (cI, 8192, .inl (aI X)))]) (va_runV (As := [.int (iZ (k_ * adv)), .int (iZ 0), .int (iZ (pa * fw)), .int (iZ (qa * fh))]) (rest := []) ⟨hx, hb, hml, hown, hts⟩ (c_Steps_touchPaper l dC dI hst hp x y qr s1 s2 s3 s4 hw hs hk w h mn (k_ * adv) 0 (pa * fw) (qa * fh) H.size (by first | omega | assumption) (by first | omega | assumption) (by first | omega | assumption) (by first | omega | assumption) (by first | omega | assumption) (by first | omega | assumption) (by first | omega | assumption) (by first | omega | assumption) (by first | omega | assumption) (by first | omega | assumption) (by first | omega | assumption) (by first | omega | assumption) (by first | omega | assumption) (by first | omega | assumption) (by first | omega | assumption) (by first | omega | assumption) (by first | omega | assumption) (by first | omega | assumption)) (cwV 4 hts (gV t_477 t_478 t_479 t_3 t_480) rfl rfl rfl (by decide +kernel) ⟨Nat.le_of_ble_eq_true rfl, Nat.le_of_ble_eq_true rfl⟩) ⟨zPm_blind, va_recv hK hP (ci := 3) (q0 := 5) rfl rfl, zPm_pre hP hD hK [5, 1] [] rfl rfl rfl rfl⟩ rfl rfl hl.1 rfl (lv_room (Nat.le_of_ble_eq_true rfl)) d_D_text_156 ⟨Nat.le_of_ble_eq_true rfl, Nat.le_of_ble_eq_true rfl⟩) hP hD hS hA [5, 1] [0, 2, 3, 4, 6, 7, 8] rfl rfl rfl (by decide) (fun r_156 u_156 H locs q_156 hP hD hS => ?_)
                have hP : va_P (dC, dI) vwCl [(hx_, .inr (4, [.ref hp, .ref hst, .ref hd, .ref hfa])), (hw, .inl (cL, 16384, .inr (.inl (aL K)))), (hd, .inr (0, [.int (iZ n), .ref hy])), (hy, .inl (cB, 4096, .inl (aI Y))), (hfa, .inl (cF, 4, .inr (.inr (.inr (.inr (aQ Fq)))))), (hf, .inr (1, [.int (iZ fw), .int (iZ fh), .int (iZ fg), .ref hrw])), (hrw, .inl (cI, 8192, .inl (aI X))), (hst, .inr (3, [.ref hp, .int (iZ x), .int (iZ y), .int (iZ qr), .int (iZ u_156.1), .int (iZ u_156.2.1), .int (iZ u_156.2.2.1), .int (iZ u_156.2.2.2)])), (hp, .inr (2, [.int (iZ w), .int (iZ h), .int (iZ mn), .ref hw, .ref hs, .ref hk]))] H := hP
                have hD : va_D A [(hx_, .inr (4, [.ref hp, .ref hst, .ref hd, .ref hfa])), (hw, .inl (cL, 16384, .inr (.inl (aL K)))), (hd, .inr (0, [.int (iZ n), .ref hy])), (hy, .inl (cB, 4096, .inl (aI Y))), (hfa, .inl (cF, 4, .inr (.inr (.inr (.inr (aQ Fq)))))), (hf, .inr (1, [.int (iZ fw), .int (iZ fh), .int (iZ fg), .ref hrw])), (hrw, .inl (cI, 8192, .inl (aI X))), (hst, .inr (3, [.ref hp, .int (iZ x), .int (iZ y), .int (iZ qr), .int (iZ u_156.1), .int (iZ u_156.2.1), .int (iZ u_156.2.2.1), .int (iZ u_156.2.2.2)])), (hp, .inr (2, [.int (iZ w), .int (iZ h), .int (iZ mn), .ref hw, .ref hs, .ref hk]))] := hD
                obtain ⟨k_156, rfl, q_156⟩ := q_156
                refine zb_if_eq (tgt := 191) hx hb d_D_text_159 (by decide) (fun c_159 => ?_) (fun c_159 => ?_)
                · refine lv_iinc (v := iZ (k_ + 1)) (lv' := [(11, .int (iZ (k_ + 1))), (0, .ref hx_), (1, .int (iZ x)), (2, .int (iZ y)), (3, .int (iZ f)), (4, .int (iZ sc)), (5, .int (iZ qr)), (6, .int (iZ pa)), (7, .int (iZ qa)), (8, .ref hf), (9, .int (iZ adv)), (10, .int (iZ dn))]) hx hb d_D_text_191 hl (k := 11) rfl (iZ_add _ _) (by decide) rfl (fun ls hl => ?_)
                  refine lv_goto (tgt := 118) hx hb d_D_text_194 (by decide) ?_
                  exact ih_118 (k_ + 1) dn K u_156.1 u_156.2.1 u_156.2.2.1 u_156.2.2.2 (by omega) (by omega) (by first | exact ac_ext i3 (fun px py o9 => tx_skip (by omega) (by omega) (by omega) (by omega) i1 (by omega) (by rw [← e_adv]; exact q_156 c_159) px py o9) | (rw [e_v10_189, e_adv]; exact ac_step i3 (by rw [← e_adv]; exact q_185) (fun px py => tx_d (by omega) (by omega) (by omega) (by omega) i1 (by omega) px py) (fun px py => tx_step (by omega) (by omega) (by omega) (by omega) i1 (by omega) px py))) (by omega) _ _ (hP.sub (ws' := [(hx_, .inr (4, [.ref hp, .ref hst, .ref hd, .ref hfa])), (hp, .inr (2, [.int (iZ w), .int (iZ h), .int (iZ mn), .ref hw, .ref hs, .ref hk])), (hw, .inl (cL, 16384, .inr (.inl (aL K)))), (hd, .inr (0, [.int (iZ n), .ref hy])), (hy, .inl (cB, 4096, .inl (aI Y))), (hst, .inr (3, [.ref hp, .int (iZ x), .int (iZ y), .int (iZ qr), .int (iZ u_156.1), .int (iZ u_156.2.1), .int (iZ u_156.2.2.1), .int (iZ u_156.2.2.2)])), (hfa, .inl (cF, 4, .inr (.inr (.inr (.inr (aQ Fq)))))), (hf, .inr (1, [.int (iZ fw), .int (iZ fh), .int (iZ fg), .ref hrw])), (hrw, .inl (cI, 8192, .inl (aI X)))]) [0, 8, 1, 2, 3, 7, 4, 5, 6] rfl) (hD.sub (ws' := [(hx_, .inr (4, [.ref hp, .ref hst, .ref hd, .ref hfa])), (hp, .inr (2, [.int (iZ w), .int (iZ h), .int (iZ mn), .ref hw, .ref hs, .ref hk])), (hw, .inl (cL, 16384, .inr (.inl (aL K)))), (hd, .inr (0, [.int (iZ n), .ref hy])), (hy, .inl (cB, 4096, .inl (aI Y))), (hst, .inr (3, [.ref hp, .int (iZ x), .int (iZ y), .int (iZ qr), .int (iZ u_156.1), .int (iZ u_156.2.1), .int (iZ u_156.2.2.1), .int (iZ u_156.2.2.2)])), (hfa, .inl (cF, 4, .inr (.inr (.inr (.inr (aQ Fq)))))), (hf, .inr (1, [.int (iZ fw), .int (iZ fh), .int (iZ fg), .ref hrw])), (hrw, .inl (cI, 8192, .inl (aI X)))]) [0, 8, 1, 2, 3, 7, 4, 5, 6] (by decide) rfl) hS ls (lv_sub hl [1, 2, 3, 4, 5, 6, 7, 8, 9, 10, 11, 0] rfl)
                · refine lv_iload hx hb d_D_text_162 (lv_at hl 10 rfl) ?_
                  refine lv_aload_n hx hb d_D_text_164 rfl (lv_at hl 0 rfl) ?_
                  refine lv_aload hx hb d_D_text_165 (lv_at hl 8 rfl) ?_
                  refine lv_aload_n hx hb d_D_text_167 rfl (lv_at hl 0 rfl) ?_
                  refine va_get (D := (dC, dI)) (ci := 4) (v := .ref hd) (C := R_D) (T := T_D) (N := 4) hx hb hts wi_D hown hK hP 0 rfl rfl 2 (by decide) (hts _ t_128) (fun _ h9 => h9) rfl d_D_text_168 ?_
                  refine lv_iload hx hb d_D_text_171 (lv_at hl 11 rfl) ?_
                  refine vp_callSi (va_runV (As := [.int (iZ k_)]) (rest := [.ref hf, .ref hx_, .int (iZ dn)]) ⟨hx, hb, hml, hown, hts⟩ (c_Draft_byteAt l dC dI hd hy cB n Y dr k_ (by first | omega | assumption) (by first | omega | assumption) (by first | omega | assumption) (by first | omega | assumption) (by first | omega | assumption)) (cwV 1 hts (gV t_493 t_494 t_495 t_4 t_496) rfl rfl rfl (by decide +kernel) ⟨Nat.le_of_ble_eq_true rfl, Nat.le_of_ble_eq_true rfl⟩) ⟨zPr_blind, va_recv hK hP (ci := 0) (q0 := 2) rfl rfl, zPr_pre hP hK [2, 3] [1] rfl rfl⟩ rfl rfl hl.1 rfl (lv_room (Nat.le_of_ble_eq_true rfl)) d_D_text_173 ⟨Nat.le_of_ble_eq_true rfl, Nat.le_of_ble_eq_true rfl⟩).run (fun r_173 q_173 => ?_)
                  obtain rfl := q_173
                  have d9 := (hY k_ (by omega) (by omega)).2
                  refine zn_eq (v2 := .int (iZ (dr k_))) (congrArg (fun z9 => Value.int (iZ z9)) (if_pos (by omega))) ?_
                  refine lv_iload hx hb d_D_text_176 (lv_at hl 11 rfl) ?_
                  refine lv_iload hx hb d_D_text_178 (lv_at hl 9 rfl) ?_
                  refine zi_mul hx hb d_D_text_180 ?_
                  refine lv_iload hx hb d_D_text_181 (lv_at hl 6 rfl) ?_
                  refine lv_iload hx hb d_D_text_183 (lv_at hl 7 rfl) ?_
                  refine zc_i (w1 := fun (u_185 : (Int → Int64) × Int × Int × Int × Int) => [(hx_, .inr (4, [.ref hp, .ref hst, .ref hd, .ref hfa])), (hp, .inr (2, [.int (iZ w), .int (iZ h), .int (iZ mn), .ref hw, .ref hs, .ref hk])), (hw, .inl (cL, 16384, .inr (.inl (aL u_185.1)))), (hst, .inr (3, [.ref hp, .int (iZ x), .int (iZ y), .int (iZ qr), .int (iZ u_185.2.1), .int (iZ u_185.2.2.1), .int (iZ u_185.2.2.2.1), .int (iZ u_185.2.2.2.2)])), (hf, .inr (1, [.int (iZ fw), .int (iZ fh), .int (iZ fg), .ref hrw])), (hrw, .inl (cI, 8192, .inl (aI X)))]) (wr := [(hd, .inr (0, [.int (iZ n), .ref hy])), (hy, .inl (cB, 4096, .inl (aI Y))), (hfa, .inl (cF, 4, .inr (.inr (.inr (.inr (aQ Fq))))))]) (va_runV (As := [.ref hf, .int (iZ (dr k_)), .int (iZ (k_ * adv)), .int (iZ pa), .int (iZ qa)]) (rest := [.int (iZ dn)]) ⟨hx, hb, hml, hown, hts⟩ (c_DotSheet_drawCell l dC dI hx_ hst hd hfa hp hw hs hk cL w h mn K (drw mn (fun px py => onB w h px py && txP X dr n fw fh fg pa qa qr x y k_ px py) pic) x y qr u_156.1 u_156.2.1 u_156.2.2.1 u_156.2.2.2 hf hrw cI fw fh fg X (dr k_) (k_ * adv) pa qa H.size (by first | omega | assumption) (by first | omega | assumption) (by first | omega | assumption) (by first | omega | assumption) (by first | omega | assumption) (by first | omega | assumption) (by first | omega | assumption) (by first | omega | assumption) (by first | omega | assumption) (by first | omega | assumption) (by first | omega | assumption) (by first | omega | assumption) (by first | omega | assumption) (by first | omega | assumption) (by first | omega | assumption) (by first | omega | assumption) (by first | omega | assumption) (by first | omega | assumption) (by first | omega | assumption) (by first | omega | assumption) (by first | omega | assumption) (by first | omega | assumption) (by first | omega | assumption) (by first | omega | assumption) (by first | omega | assumption) (by first | omega | assumption) (by first | omega | assumption)) (cwV 5 hts (gV t_497 t_499 s_8 t_1 t_500) rfl rfl rfl (by decide +kernel) ⟨Nat.le_of_ble_eq_true rfl, Nat.le_of_ble_eq_true rfl⟩) ⟨zPm_blind, va_recv hK hP (ci := 4) (q0 := 0) rfl rfl, zPm_pre hP hD hK [0, 8, 1, 7, 5, 6] [0, 3] rfl rfl rfl rfl⟩ rfl rfl hl.1 rfl (lv_room (Nat.le_of_ble_eq_true rfl)) d_D_text_185 ⟨Nat.le_of_ble_eq_true rfl, Nat.le_of_ble_eq_true rfl⟩) hP hD hS hA [0, 8, 1, 7, 5, 6] [2, 3, 4] rfl rfl rfl (by decide) (fun r_185 u_185 H locs q_185 hP hD hS => ?_)
                  have hP : va_P (dC, dI) vwCl [(hd, .inr (0, [.int (iZ n), .ref hy])), (hy, .inl (cB, 4096, .inl (aI Y))), (hfa, .inl (cF, 4, .inr (.inr (.inr (.inr (aQ Fq)))))), (hx_, .inr (4, [.ref hp, .ref hst, .ref hd, .ref hfa])), (hp, .inr (2, [.int (iZ w), .int (iZ h), .int (iZ mn), .ref hw, .ref hs, .ref hk])), (hw, .inl (cL, 16384, .inr (.inl (aL u_185.1)))), (hst, .inr (3, [.ref hp, .int (iZ x), .int (iZ y), .int (iZ qr), .int (iZ u_185.2.1), .int (iZ u_185.2.2.1), .int (iZ u_185.2.2.2.1), .int (iZ u_185.2.2.2.2)])), (hf, .inr (1, [.int (iZ fw), .int (iZ fh), .int (iZ fg), .ref hrw])), (hrw, .inl (cI, 8192, .inl (aI X)))] H := hP
                  have hD : va_D A [(hd, .inr (0, [.int (iZ n), .ref hy])), (hy, .inl (cB, 4096, .inl (aI Y))), (hfa, .inl (cF, 4, .inr (.inr (.inr (.inr (aQ Fq)))))), (hx_, .inr (4, [.ref hp, .ref hst, .ref hd, .ref hfa])), (hp, .inr (2, [.int (iZ w), .int (iZ h), .int (iZ mn), .ref hw, .ref hs, .ref hk])), (hw, .inl (cL, 16384, .inr (.inl (aL u_185.1)))), (hst, .inr (3, [.ref hp, .int (iZ x), .int (iZ y), .int (iZ qr), .int (iZ u_185.2.1), .int (iZ u_185.2.2.1), .int (iZ u_185.2.2.2.1), .int (iZ u_185.2.2.2.2)])), (hf, .inr (1, [.int (iZ fw), .int (iZ fh), .int (iZ fg), .ref hrw])), (hrw, .inl (cI, 8192, .inl (aI X)))] := hD
                  obtain ⟨rfl, q_185⟩ := q_185
                  refine zi_add hx hb d_D_text_188 ?_
                  refine zn_z (fun v10_189 e_v10_189 => ?_)
                  refine lv_istore (lv' := [(10, .int (iZ v10_189)), (0, .ref hx_), (1, .int (iZ x)), (2, .int (iZ y)), (3, .int (iZ f)), (4, .int (iZ sc)), (5, .int (iZ qr)), (6, .int (iZ pa)), (7, .int (iZ qa)), (8, .ref hf), (9, .int (iZ adv)), (11, .int (iZ k_))]) hx hb d_D_text_189 hl (by decide) rfl (fun ls hl => ?_)
                  refine lv_iinc (v := iZ (k_ + 1)) (lv' := [(11, .int (iZ (k_ + 1))), (10, .int (iZ v10_189)), (0, .ref hx_), (1, .int (iZ x)), (2, .int (iZ y)), (3, .int (iZ f)), (4, .int (iZ sc)), (5, .int (iZ qr)), (6, .int (iZ pa)), (7, .int (iZ qa)), (8, .ref hf), (9, .int (iZ adv))]) hx hb d_D_text_191 hl (k := 11) rfl (iZ_add _ _) (by decide) rfl (fun ls hl => ?_)
                  refine lv_goto (tgt := 118) hx hb d_D_text_194 (by decide) ?_
                  exact ih_118 (k_ + 1) v10_189 u_185.1 u_185.2.1 u_185.2.2.1 u_185.2.2.2.1 u_185.2.2.2.2 (by omega) (by omega) (by first | exact ac_ext i3 (fun px py o9 => tx_skip (by omega) (by omega) (by omega) (by omega) i1 (by omega) (by rw [← e_adv]; exact q_156 c_159) px py o9) | (rw [e_v10_189, e_adv]; exact ac_step i3 (by rw [← e_adv]; exact q_185) (fun px py => tx_d (by omega) (by omega) (by omega) (by omega) i1 (by omega) px py) (fun px py => tx_step (by omega) (by omega) (by omega) (by omega) i1 (by omega) px py))) (by omega) _ _ (hP.sub (ws' := [(hx_, .inr (4, [.ref hp, .ref hst, .ref hd, .ref hfa])), (hp, .inr (2, [.int (iZ w), .int (iZ h), .int (iZ mn), .ref hw, .ref hs, .ref hk])), (hw, .inl (cL, 16384, .inr (.inl (aL u_185.1)))), (hd, .inr (0, [.int (iZ n), .ref hy])), (hy, .inl (cB, 4096, .inl (aI Y))), (hst, .inr (3, [.ref hp, .int (iZ x), .int (iZ y), .int (iZ qr), .int (iZ u_185.2.1), .int (iZ u_185.2.2.1), .int (iZ u_185.2.2.2.1), .int (iZ u_185.2.2.2.2)])), (hfa, .inl (cF, 4, .inr (.inr (.inr (.inr (aQ Fq)))))), (hf, .inr (1, [.int (iZ fw), .int (iZ fh), .int (iZ fg), .ref hrw])), (hrw, .inl (cI, 8192, .inl (aI X)))]) [3, 4, 5, 0, 1, 6, 2, 7, 8] rfl) (hD.sub (ws' := [(hx_, .inr (4, [.ref hp, .ref hst, .ref hd, .ref hfa])), (hp, .inr (2, [.int (iZ w), .int (iZ h), .int (iZ mn), .ref hw, .ref hs, .ref hk])), (hw, .inl (cL, 16384, .inr (.inl (aL u_185.1)))), (hd, .inr (0, [.int (iZ n), .ref hy])), (hy, .inl (cB, 4096, .inl (aI Y))), (hst, .inr (3, [.ref hp, .int (iZ x), .int (iZ y), .int (iZ qr), .int (iZ u_185.2.1), .int (iZ u_185.2.2.1), .int (iZ u_185.2.2.2.1), .int (iZ u_185.2.2.2.2)])), (hfa, .inl (cF, 4, .inr (.inr (.inr (.inr (aQ Fq)))))), (hf, .inr (1, [.int (iZ fw), .int (iZ fh), .int (iZ fg), .ref hrw])), (hrw, .inl (cI, 8192, .inl (aI X)))]) [3, 4, 5, 0, 1, 6, 2, 7, 8] (by decide) rfl) hS ls (lv_sub hl [2, 3, 4, 5, 6, 7, 8, 9, 10, 11, 1, 0] rfl)
          exact LP_118 _ 0 0 G sl sp sr sb (by omega) (by omega) (ac_0 hR (fun px py => tx_0 (by omega) (by omega) (by omega) px py)) (Nat.lt_succ_self _) _ _ (hP.sub (ws' := [(hx_, .inr (4, [.ref hp, .ref hst, .ref hd, .ref hfa])), (hp, .inr (2, [.int (iZ w), .int (iZ h), .int (iZ mn), .ref hw, .ref hs, .ref hk])), (hw, .inl (cL, 16384, .inr (.inl (aL G)))), (hd, .inr (0, [.int (iZ n), .ref hy])), (hy, .inl (cB, 4096, .inl (aI Y))), (hst, .inr (3, [.ref hp, .int (iZ x), .int (iZ y), .int (iZ qr), .int (iZ sl), .int (iZ sp), .int (iZ sr), .int (iZ sb)])), (hfa, .inl (cF, 4, .inr (.inr (.inr (.inr (aQ Fq)))))), (hf, .inr (1, [.int (iZ fw), .int (iZ fh), .int (iZ fg), .ref hrw])), (hrw, .inl (cI, 8192, .inl (aI X)))]) [0, 1, 2, 3, 4, 8, 5, 6, 7] rfl) (hD.sub (ws' := [(hx_, .inr (4, [.ref hp, .ref hst, .ref hd, .ref hfa])), (hp, .inr (2, [.int (iZ w), .int (iZ h), .int (iZ mn), .ref hw, .ref hs, .ref hk])), (hw, .inl (cL, 16384, .inr (.inl (aL G)))), (hd, .inr (0, [.int (iZ n), .ref hy])), (hy, .inl (cB, 4096, .inl (aI Y))), (hst, .inr (3, [.ref hp, .int (iZ x), .int (iZ y), .int (iZ qr), .int (iZ sl), .int (iZ sp), .int (iZ sr), .int (iZ sb)])), (hfa, .inl (cF, 4, .inr (.inr (.inr (.inr (aQ Fq)))))), (hf, .inr (1, [.int (iZ fw), .int (iZ fh), .int (iZ fg), .ref hrw])), (hrw, .inl (cI, 8192, .inl (aI X)))]) [0, 1, 2, 3, 4, 8, 5, 6, 7] (by decide) rfl) hS ls (lv_sub hl [6, 7, 8, 9, 10, 11, 5, 4, 3, 2, 1, 0] rfl)
