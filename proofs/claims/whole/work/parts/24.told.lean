/-! edges and counts -/
theorem pw_le {a b : Nat} (h : a ≤ b) : (2 : Int) ^ a ≤ 2 ^ b := by have := Nat.pow_le_pow_right (n := 2) (by decide) h; exact_mod_cast this
theorem ntz_fin {y i n : Int} {t : Nat} (m : Nat) (P : Int) (hP : P = 2 ^ m) (hn : n = m + 1) (h1 : P * i ≤ y) (h2 : y < P * (i + 1)) (i1 : 1 ≤ i) (i2 : i ≤ 4) (hy : y = 2 ^ t - 1) : (t : Int) = n + i / 2 := by
  have P0 : 0 < P := by rw [hP]; exact Int.pow_pos (by decide)
  have le : ∀ {a b : Nat}, a ≤ b → (2 : Int) ^ a ≤ 2 ^ b := fun {a b} h => pw_le h
  have e1 : (2 : Int) ^ (m + 1) = P * 2 := by rw [Int.pow_succ, hP]
  have e2 : (2 : Int) ^ (m + 2) = P * 2 * 2 := by rw [Int.pow_succ, e1]
  have e3 : (2 : Int) ^ (m + 3) = P * 2 * 2 * 2 := by rw [Int.pow_succ, e2]
  have ii : i = 1 ∨ i = 2 ∨ i = 3 ∨ i = 4 := by omega
  rcases Nat.lt_or_ge m t with q | q
  · rcases Nat.lt_or_ge t (m + 3) with q2 | q2
    · rcases (show t = m + 1 ∨ t = m + 2 by omega) with q3 | q3
      · subst q3; rw [e1] at hy; rcases ii with rfl | rfl | rfl | rfl <;> omega
      · subst q3; rw [e2] at hy; rcases ii with rfl | rfl | rfl | rfl <;> omega
    · have := le q2; rw [e3] at this; exfalso; rcases ii with rfl | rfl | rfl | rfl <;> omega
  · have := le q; rw [← hP] at this; exfalso; rcases ii with rfl | rfl | rfl | rfl <;> omega
theorem ntz_neg {w : Int32} {y : Int} (h : y ≤ 0) (hc : (w = 0 ∧ y = -1) ∨ (∃ t : Nat, t < 32 ∧ y = 2 ^ t - 1 ∧ w.toBitVec.toNat.testBit t = true ∧ ∀ j, j < t → w.toBitVec.toNat.testBit j = false)) : ∃ z : Int, iZ y &&& iZ 32 = iZ z ∧ ntzS w z ∧ 0 ≤ z ∧ z ≤ 32 := by
  rcases hc with ⟨a, b⟩ | ⟨t, a, b, c, d⟩
  · subst b; exact ⟨32, by decide +kernel, Or.inl ⟨a, rfl⟩, by decide, by decide⟩
  · rcases Nat.eq_zero_or_pos t with q | q
    · subst q; subst b; exact ⟨0, by decide +kernel, Or.inr ⟨0, rfl, by decide, c, d⟩, by decide, by decide⟩
    · have : (2 : Int) ^ 1 ≤ 2 ^ t := pw_le q
      exfalso; omega
theorem ntz_pos {w : Int32} {y i n : Int} (h : 0 < y) (hc : (w = 0 ∧ y = -1) ∨ (∃ t : Nat, t < 32 ∧ y = 2 ^ t - 1 ∧ w.toBitVec.toNat.testBit t = true ∧ ∀ j, j < t → w.toBitVec.toNat.testBit j = false)) (m : Nat) (P : Int) (hP : P = 2 ^ m) (hn : n = m + 1) (h1 : P * i ≤ y) (h2 : y < P * (i + 1)) (i1 : 1 ≤ i) (i2 : i ≤ 4) (m2 : m ≤ 30) : ntzS w (n + i / 2) ∧ 0 ≤ n + i / 2 ∧ n + i / 2 ≤ 33 := by
  rcases hc with ⟨a, b⟩ | ⟨t, a, b, c, d⟩
  · exfalso; omega
  · have e := ntz_fin m P hP hn h1 h2 i1 i2 b
    exact ⟨Or.inr ⟨t, e, a, c, d⟩, by omega, by omega⟩
theorem nlz_pos {a i n : Int} (m : Nat) (P : Int) (hP : P = 2 ^ m) (hn : n = 31 - m) (hm : m + i / 2 ≤ 30) (h1 : P * i ≤ a) (h2 : a < P * (i + 1)) (i1 : 1 ≤ i) (i2 : i ≤ 3) : nlzS a (n - i / 2) ∧ 0 ≤ n - i / 2 ∧ n - i / 2 ≤ 32 := ⟨nlz_fin m P hP hn hm h1 h2 i1 i2, by omega, by omega⟩
theorem cR_split {P : Int → Bool} (a : Nat) : ∀ b : Nat, cR P (a + b) = cR P a + cR (fun k => P (a + k)) b
  | 0 => by show cR P a = cR P a + 0; omega
  | b + 1 => by
    show cR P (a + b) + (if P ((a + b : Nat) : Int) then 1 else 0) = cR P a + (cR (fun k => P (a + k)) b + (if P (a + (b : Int)) then 1 else 0))
    rw [cR_split a b, Int.natCast_add]; omega
theorem cR_win {P : Int → Bool} {n : Nat} {c : Int} (c1 : 0 ≤ c) (h : ∀ x : Int, P x = true → c ≤ x ∧ x < c + 64 ∧ x < n) : cR P n = cR (fun k => P (c + k)) 64 := by
  have f : ∀ x : Int, ¬ (c ≤ x ∧ x < c + 64 ∧ x < n) → P x = false := fun x q => by cases e : P x; rfl; exact absurd (h x e) q
  have e1 : cR P (n + (c.toNat + 64)) = cR P n := by
    rw [cR_split, cR_no (P := fun k => P (n + k)) (n := c.toNat + 64) (fun x x1 x2 => f _ (by omega)), Int.add_zero]
  have e2 : cR P (c.toNat + (64 + n)) = cR (fun k => P (c + k)) 64 := by
    rw [cR_split, cR_no (P := P) (n := c.toNat) (fun x x1 x2 => f _ (by omega)), Int.zero_add, cR_split, cR_no (n := n) (fun x x1 x2 => f _ (by omega)), Int.add_zero]
    exact cR_ext (fun x x1 x2 => by rw [show ((c.toNat : Int)) = c by omega])
  rw [← e1, ← e2]; congr 1; omega
theorem sR_one {f : Int → Int} {r : Int} (r0 : 0 ≤ r) : ∀ {n : Nat}, r < n → (∀ y : Int, y ≠ r → f y = 0) → sR f n = f r
  | 0, h, _ => absurd h (by omega)
  | n + 1, h, q => by
    show sR f n + f n = f r
    by_cases e : r = n
    · rw [sR_no (fun y y0 y1 => q y (by omega)), e, Int.zero_add]
    · rw [sR_one r0 (by omega) q, q n (by omega), Int.add_zero]
theorem dk_word {w h : Int} {G : Int → Int64} {pic : Int → Int → Bool} (hR : Rep G pic) {row col fi la : Int} (w2 : w ≤ 1024) (h2 : h ≤ 1024) (r0 : 0 ≤ row) (r1 : row < h) (c0 : 0 ≤ col) (c1 : col < 16) (f0 : 0 ≤ fi) (l1 : la < w) {m : Int64} (hm : ∀ k : Int, 0 ≤ k → k < 64 → bitZ m k = decide (fi ≤ col * 64 + k ∧ col * 64 + k ≤ la)) :
    cnt w h (fun x y => decide (y = row ∧ x / 64 = col ∧ fi ≤ x ∧ x ≤ la) && pic x y) = pop (G (row * 16 + col) &&& m) := by
  unfold cnt
  rw [sR_one r0 (by omega) (fun y hy => cR_no (fun x _ _ => by show (decide (y = row ∧ x / 64 = col ∧ fi ≤ x ∧ x ≤ la) && pic x y) = false; rw [decide_eq_false (by omega), Bool.false_and]))]
  rw [cR_win (c := col * 64) (by omega) (fun x q => by rw [Bool.and_eq_true] at q; have := of_decide_eq_true q.1; omega)]
  unfold pop
  apply cR_ext
  intro k k0 k1
  show (decide (row = row ∧ (col * 64 + k) / 64 = col ∧ fi ≤ col * 64 + k ∧ col * 64 + k ≤ la) && pic (col * 64 + k) row) = _
  rw [bz_and, hm k k0 (by omega), ← hR (col * 64 + k) row (by omega) (by omega) r0 (by omega), show (col * 64 + k) / 64 = col by omega, show (col * 64 + k) % 64 = k by omega, Bool.and_comm]
  congr 1
  exact decide_eq_decide.mpr (by omega)
def dkB (pic : Int → Int → Bool) (l t r b x y : Int) : Bool := bxB l t r b x y && pic x y
theorem dk_row {w h : Int} {G : Int → Int64} {pic : Int → Int → Bool} (hR : Rep G pic) {row col fi la fr lr dn : Int} (w2 : w ≤ 1024) (h2 : h ≤ 1024) (r0 : 0 ≤ row) (r1 : row < h) (c0 : 0 ≤ col) (c1 : col < 16) (f0 : 0 ≤ fi) (l1 : la < w) (b1 : fr ≤ row) (b2 : row ≤ lr) {m : Int64} (hm : ∀ k : Int, 0 ≤ k → k < 64 → bitZ m k = decide (fi ≤ col * 64 + k ∧ col * 64 + k ≤ la)) (hd : dn = cnt w h (fun x y => bxP fi la fr lr col row x y && pic x y)) :
    dn + pop (G (row * 16 + col) &&& m) = cnt w h (fun x y => bxP fi la fr lr col (row + 1) x y && pic x y) := by
  rw [← dk_word hR w2 h2 r0 r1 c0 c1 f0 l1 hm, hd, ← cnt_or]
  · exact cnt_ext (fun x y _ _ _ _ => by rw [← bxP_row b1 b2 x y, Bool.and_or_distrib_right])
  · intro x y _ _ _ _ q
    rw [Bool.and_eq_true] at q
    have := of_decide_eq_true q.1
    rw [decide_eq_false (by omega), Bool.false_and]
theorem dk_fin {w h l t r b col fr dn : Int} {pic : Int → Int → Bool} (hc : min r (w - 1) / 64 < col) (hd : dn = cnt w h (fun x y => bxP (max l 0) (min r (w - 1)) (max t 0) (min b (h - 1)) col fr x y && pic x y)) : dn = cnt w h (dkB pic l t r b) := by
  rw [hd]; apply cnt_ext; intro x y x0 x1 y0 y1
  rw [bxP_1 hc x y, show onB w h x y = true from decide_eq_true ⟨x0, x1, y0, y1⟩, Bool.true_and]; rfl
theorem dk_none {w h l t r b : Int} {pic : Int → Int → Bool} (hc : max l 0 > min r (w - 1)) : 0 = cnt w h (dkB pic l t r b) := by
  rw [cnt_no]; intro x y x0 x1 y0 y1
  unfold dkB bxB; rw [decide_eq_false (by omega), Bool.false_and]
theorem pop_in (v : Int64) : 0 ≤ pop v ∧ pop v ≤ 64 := cR_in _ 64
/-- a column's dark dots -/
theorem lx_hit {h : Int} {pic : Int → Int → Bool} {v : Int64} {col z : Int} (c0 : 0 ≤ col) (hv : ∀ k : Int, 0 ≤ k → k < 64 → (bitZ v k = true ↔ ∃ y, 0 ≤ y ∧ y < h ∧ pic (col * 64 + k) y = true)) (hz : nlzL v z) {w : Int} (hO : Off w h pic) (hb : ∀ x, x / 64 < col → ¬ ∃ y, pic x y = true) : edgeS (fun x => ∃ y, pic x y = true) (col * 64 + z) := by
  obtain ⟨z0, z1, z2, z3⟩ := hz
  refine Or.inr ⟨by omega, ?_, fun x ⟨y, e⟩ => ?_⟩
  · obtain ⟨y, _, _, e⟩ := (hv z z0 z1).mp z2; exact ⟨y, e⟩
  · apply Classical.byContradiction; intro q
    have o := Off_in hO e
    by_cases q2 : x / 64 < col
    · exact hb x q2 ⟨y, e⟩
    · have := z3 (x - col * 64) (by omega) (by omega)
      rw [(hv (x - col * 64) (by omega) (by omega)).mpr ⟨y, o.2.2.1, o.2.2.2, by rw [show col * 64 + (x - col * 64) = x by omega]; exact e⟩] at this
      exact absurd this (by decide)
theorem gx_hit {h : Int} {pic : Int → Int → Bool} {v : Int64} {col z : Int} (c0 : 0 ≤ col) (hv : ∀ k : Int, 0 ≤ k → k < 64 → (bitZ v k = true ↔ ∃ y, 0 ≤ y ∧ y < h ∧ pic (col * 64 + k) y = true)) (hz : ntzL v z) {w : Int} (hO : Off w h pic) (hb : ∀ x, col < x / 64 → ¬ ∃ y, pic x y = true) : edgeG (fun x => ∃ y, pic x y = true) (col * 64 + 64 - 1 - z) := by
  obtain ⟨z0, z1, z2, z3⟩ := hz
  refine Or.inr ⟨by omega, ?_, fun x ⟨y, e⟩ => ?_⟩
  · obtain ⟨y, _, _, e⟩ := (hv (63 - z) (by omega) (by omega)).mp z2; exact ⟨y, by rw [show col * 64 + 64 - 1 - z = col * 64 + (63 - z) by omega]; exact e⟩
  · apply Classical.byContradiction; intro q
    have o := Off_in hO e
    by_cases q2 : col < x / 64
    · exact hb x q2 ⟨y, e⟩
    · have := z3 (x - col * 64) (by omega) (by omega)
      rw [(hv (x - col * 64) (by omega) (by omega)).mpr ⟨y, o.2.2.1, o.2.2.2, by rw [show col * 64 + (x - col * 64) = x by omega]; exact e⟩] at this
      exact absurd this (by decide)
theorem col_none {h : Int} {pic : Int → Int → Bool} {v : Int64} {col : Int} (hv : ∀ k : Int, 0 ≤ k → k < 64 → (bitZ v k = true ↔ ∃ y, 0 ≤ y ∧ y < h ∧ pic (col * 64 + k) y = true)) (h0 : v = lZ 0) {w : Int} (hO : Off w h pic) {x : Int} (hx : x / 64 = col) : ¬ ∃ y, pic x y = true := by
  intro ⟨y, e⟩
  have o := Off_in hO e
  have := (hv (x % 64) (by omega) (by omega)).mpr ⟨y, o.2.2.1, o.2.2.2, by rw [show col * 64 + x % 64 = x by omega]; exact e⟩
  rw [h0, show lZ 0 = 0 from rfl, bz_0] at this
  exact absurd this (by decide)
def tolS (w h : Int) (pic : Int → Int → Bool) (wh z : Int) : Prop := (wh = 0 → z = w) ∧ (wh = 1 → z = h) ∧ (wh = 2 → edgeS (fun x => ∃ y, pic x y = true) z) ∧ (wh = 3 → edgeS (fun y => ∃ x, pic x y = true) z) ∧ (wh = 4 → edgeG (fun x => ∃ y, pic x y = true) z) ∧ (wh = 5 → edgeG (fun y => ∃ x, pic x y = true) z) ∧ (wh = 6 → z = cnt w h (dkB pic 0 0 (w - 1) (h - 1)))
theorem d_JI_numberOfLeadingZeros_0 : decode c_yJI_numberOfLeadingZeros 0 = .ok (.iload_n 0, 1) := by decide +kernel
theorem d_JI_numberOfLeadingZeros_1 : decode c_yJI_numberOfLeadingZeros 1 = .ok (.ifCond .gt 14, 3) := by decide +kernel
theorem d_JI_numberOfLeadingZeros_4 : decode c_yJI_numberOfLeadingZeros 4 = .ok (.iload_n 0, 1) := by decide +kernel
theorem d_JI_numberOfLeadingZeros_5 : decode c_yJI_numberOfLeadingZeros 5 = .ok (.ifCond .ne 8, 3) := by decide +kernel
theorem d_JI_numberOfLeadingZeros_8 : decode c_yJI_numberOfLeadingZeros 8 = .ok (.bipush 32, 2) := by decide +kernel
theorem d_JI_numberOfLeadingZeros_10 : decode c_yJI_numberOfLeadingZeros 10 = .ok (.goto 4, 3) := by decide +kernel
theorem d_JI_numberOfLeadingZeros_13 : decode c_yJI_numberOfLeadingZeros 13 = .ok (.iconst 0, 1) := by decide +kernel
theorem d_JI_numberOfLeadingZeros_14 : decode c_yJI_numberOfLeadingZeros 14 = .ok (.ireturn, 1) := by decide +kernel
theorem d_JI_numberOfLeadingZeros_15 : decode c_yJI_numberOfLeadingZeros 15 = .ok (.bipush 31, 2) := by decide +kernel
theorem d_JI_numberOfLeadingZeros_17 : decode c_yJI_numberOfLeadingZeros 17 = .ok (.istore_n 1, 1) := by decide +kernel
theorem d_JI_numberOfLeadingZeros_18 : decode c_yJI_numberOfLeadingZeros 18 = .ok (.iload_n 0, 1) := by decide +kernel
theorem d_JI_numberOfLeadingZeros_19 : decode c_yJI_numberOfLeadingZeros 19 = .ok (.ldc_w 264, 3) := by decide +kernel
theorem d_JI_numberOfLeadingZeros_22 : decode c_yJI_numberOfLeadingZeros 22 = .ok (.if_icmp .lt 11, 3) := by decide +kernel
theorem d_JI_numberOfLeadingZeros_25 : decode c_yJI_numberOfLeadingZeros 25 = .ok (.iinc 1 (-16), 3) := by decide +kernel
theorem d_JI_numberOfLeadingZeros_28 : decode c_yJI_numberOfLeadingZeros 28 = .ok (.iload_n 0, 1) := by decide +kernel
theorem d_JI_numberOfLeadingZeros_29 : decode c_yJI_numberOfLeadingZeros 29 = .ok (.bipush 16, 2) := by decide +kernel
theorem d_JI_numberOfLeadingZeros_31 : decode c_yJI_numberOfLeadingZeros 31 = .ok (.iushr, 1) := by decide +kernel
theorem d_JI_numberOfLeadingZeros_32 : decode c_yJI_numberOfLeadingZeros 32 = .ok (.istore_n 0, 1) := by decide +kernel
theorem d_JI_numberOfLeadingZeros_33 : decode c_yJI_numberOfLeadingZeros 33 = .ok (.iload_n 0, 1) := by decide +kernel
theorem d_JI_numberOfLeadingZeros_34 : decode c_yJI_numberOfLeadingZeros 34 = .ok (.sipush 256, 3) := by decide +kernel
theorem d_JI_numberOfLeadingZeros_37 : decode c_yJI_numberOfLeadingZeros 37 = .ok (.if_icmp .lt 11, 3) := by decide +kernel
theorem d_JI_numberOfLeadingZeros_40 : decode c_yJI_numberOfLeadingZeros 40 = .ok (.iinc 1 (-8), 3) := by decide +kernel
theorem d_JI_numberOfLeadingZeros_43 : decode c_yJI_numberOfLeadingZeros 43 = .ok (.iload_n 0, 1) := by decide +kernel
theorem d_JI_numberOfLeadingZeros_44 : decode c_yJI_numberOfLeadingZeros 44 = .ok (.bipush 8, 2) := by decide +kernel
theorem d_JI_numberOfLeadingZeros_46 : decode c_yJI_numberOfLeadingZeros 46 = .ok (.iushr, 1) := by decide +kernel
theorem d_JI_numberOfLeadingZeros_47 : decode c_yJI_numberOfLeadingZeros 47 = .ok (.istore_n 0, 1) := by decide +kernel
theorem d_JI_numberOfLeadingZeros_48 : decode c_yJI_numberOfLeadingZeros 48 = .ok (.iload_n 0, 1) := by decide +kernel
theorem d_JI_numberOfLeadingZeros_49 : decode c_yJI_numberOfLeadingZeros 49 = .ok (.bipush 16, 2) := by decide +kernel
theorem d_JI_numberOfLeadingZeros_51 : decode c_yJI_numberOfLeadingZeros 51 = .ok (.if_icmp .lt 10, 3) := by decide +kernel
theorem d_JI_numberOfLeadingZeros_54 : decode c_yJI_numberOfLeadingZeros 54 = .ok (.iinc 1 (-4), 3) := by decide +kernel
theorem d_JI_numberOfLeadingZeros_57 : decode c_yJI_numberOfLeadingZeros 57 = .ok (.iload_n 0, 1) := by decide +kernel
theorem d_JI_numberOfLeadingZeros_58 : decode c_yJI_numberOfLeadingZeros 58 = .ok (.iconst 4, 1) := by decide +kernel
theorem d_JI_numberOfLeadingZeros_59 : decode c_yJI_numberOfLeadingZeros 59 = .ok (.iushr, 1) := by decide +kernel
theorem d_JI_numberOfLeadingZeros_60 : decode c_yJI_numberOfLeadingZeros 60 = .ok (.istore_n 0, 1) := by decide +kernel
theorem d_JI_numberOfLeadingZeros_61 : decode c_yJI_numberOfLeadingZeros 61 = .ok (.iload_n 0, 1) := by decide +kernel
theorem d_JI_numberOfLeadingZeros_62 : decode c_yJI_numberOfLeadingZeros 62 = .ok (.iconst 4, 1) := by decide +kernel
theorem d_JI_numberOfLeadingZeros_63 : decode c_yJI_numberOfLeadingZeros 63 = .ok (.if_icmp .lt 10, 3) := by decide +kernel
theorem d_JI_numberOfLeadingZeros_66 : decode c_yJI_numberOfLeadingZeros 66 = .ok (.iinc 1 (-2), 3) := by decide +kernel
theorem d_JI_numberOfLeadingZeros_69 : decode c_yJI_numberOfLeadingZeros 69 = .ok (.iload_n 0, 1) := by decide +kernel
theorem d_JI_numberOfLeadingZeros_70 : decode c_yJI_numberOfLeadingZeros 70 = .ok (.iconst 2, 1) := by decide +kernel
theorem d_JI_numberOfLeadingZeros_71 : decode c_yJI_numberOfLeadingZeros 71 = .ok (.iushr, 1) := by decide +kernel
theorem d_JI_numberOfLeadingZeros_72 : decode c_yJI_numberOfLeadingZeros 72 = .ok (.istore_n 0, 1) := by decide +kernel
theorem d_JI_numberOfLeadingZeros_73 : decode c_yJI_numberOfLeadingZeros 73 = .ok (.iload_n 1, 1) := by decide +kernel
theorem d_JI_numberOfLeadingZeros_74 : decode c_yJI_numberOfLeadingZeros 74 = .ok (.iload_n 0, 1) := by decide +kernel
theorem d_JI_numberOfLeadingZeros_75 : decode c_yJI_numberOfLeadingZeros 75 = .ok (.iconst 1, 1) := by decide +kernel
theorem d_JI_numberOfLeadingZeros_76 : decode c_yJI_numberOfLeadingZeros 76 = .ok (.iushr, 1) := by decide +kernel
theorem d_JI_numberOfLeadingZeros_77 : decode c_yJI_numberOfLeadingZeros 77 = .ok (.isub, 1) := by decide +kernel
theorem d_JI_numberOfLeadingZeros_78 : decode c_yJI_numberOfLeadingZeros 78 = .ok (.ireturn, 1) := by decide +kernel
set_option maxHeartbeats 4000000 in
set_option maxRecDepth 100000 in
theorem c_Integer_nlz (l : Launch) (dC : Nat → ClassId) (dI : Nat → Nat → Nat) (a : Int) (a1 : -2147483648 ≤ a) (a2 : a ≤ 2147483647) : Met l y_JI_numberOfLeadingZeros w_JI_numberOfLeadingZeros ({ frames := 0, cells := 0, slots := 0, locals := 0 }) (va_Pc [.int (iZ a)] (zPr (dC, dI) vwCl [] [])) (vp_Si (fun r => ∃ z : Int, r = iZ z ∧ nlzS a z ∧ 0 ≤ z ∧ z ≤ 32)) 0 0 (fun _ => False) := by
  refine va_MetF (cc := c_yJI_numberOfLeadingZeros) (maxL := 2) (ret := (some .int)) (by decide +kernel) rfl ?_
  intro p e s m args below meth c s₁ B hml hv
  obtain ⟨rfl, hP, hK⟩ := hv
  have hx := B.exec
  have hb := B.bytes
  have hr := B.returns
  have hts0 := atoms_spec (ws := w_JI_numberOfLeadingZeros) B.pre
  have hts : ∀ w ∈ gT, w.before _ s = true := fun w h => hts0 w (List.mem_cons_of_mem _ h)
  have hown : s.vm.findClass R_JI = some m.cls := findClass_of_methodNamed B.named
  have hlocks := B.notSynchronized
  have hl := lv_entry ([.int (iZ a)]) (n := 2) (Nat.le_of_ble_eq_true rfl)
  rw [lg_entry_eq]
  generalize (lg_sl ([.int (iZ a)]) ++ List.replicate (2 - (lg_sl ([.int (iZ a)])).length) Slot.unset).toArray = ls at hl ⊢
  have hl : lv_has ls 2 [(0, .int (iZ a))] := hl
  refine lv_iload_n hx hb d_JI_numberOfLeadingZeros_0 rfl (lv_at hl 0 rfl) ?_
  refine zi_if_gt (tgt := 15) hx hb d_JI_numberOfLeadingZeros_1 (by decide) (by omega) (by omega) (fun c_1 => ?_) (fun c_1 => ?_)
  · refine lv_bipush (v := iZ (31)) hx hb d_JI_numberOfLeadingZeros_15 (by decide) ?_
    refine lv_istore_n (lv' := [(1, .int (iZ 31)), (0, .int (iZ a))]) hx hb d_JI_numberOfLeadingZeros_17 rfl hl (by decide) rfl (fun ls hl => ?_)
    refine lv_iload_n hx hb d_JI_numberOfLeadingZeros_18 rfl (lv_at hl 1 rfl) ?_
    refine lv_ldcw (v := iZ (65536)) hx hb hown (hts _ t_599) d_JI_numberOfLeadingZeros_19 ?_
    refine zi_lt (tgt := 33) hx hb d_JI_numberOfLeadingZeros_22 (by decide) (by omega) (by omega) (by omega) (by omega) (fun c_22 => ?_) (fun c_22 => ?_)
    · refine lv_iload_n hx hb d_JI_numberOfLeadingZeros_33 rfl (lv_at hl 1 rfl) ?_
      refine lv_sipush (v := iZ (256)) hx hb d_JI_numberOfLeadingZeros_34 (by decide) ?_
      refine zi_lt (tgt := 48) hx hb d_JI_numberOfLeadingZeros_37 (by decide) (by omega) (by omega) (by omega) (by omega) (fun c_37 => ?_) (fun c_37 => ?_)
      · refine lv_iload_n hx hb d_JI_numberOfLeadingZeros_48 rfl (lv_at hl 1 rfl) ?_
        refine lv_bipush (v := iZ (16)) hx hb d_JI_numberOfLeadingZeros_49 (by decide) ?_
        refine zi_lt (tgt := 61) hx hb d_JI_numberOfLeadingZeros_51 (by decide) (by omega) (by omega) (by omega) (by omega) (fun c_51 => ?_) (fun c_51 => ?_)
        · refine lv_iload_n hx hb d_JI_numberOfLeadingZeros_61 rfl (lv_at hl 1 rfl) ?_
          refine lv_iconst (v := iZ (4)) hx hb d_JI_numberOfLeadingZeros_62 rfl ?_
          refine zi_lt (tgt := 73) hx hb d_JI_numberOfLeadingZeros_63 (by decide) (by omega) (by omega) (by omega) (by omega) (fun c_63 => ?_) (fun c_63 => ?_)
          · refine lv_iload_n hx hb d_JI_numberOfLeadingZeros_73 rfl (lv_at hl 0 rfl) ?_
            refine lv_iload_n hx hb d_JI_numberOfLeadingZeros_74 rfl (lv_at hl 1 rfl) ?_
            refine lv_iconst (v := iZ (1)) hx hb d_JI_numberOfLeadingZeros_75 rfl ?_
            refine lv_iushr (v := (iZ (a / 2))) hx hb d_JI_numberOfLeadingZeros_76 (iZ_ushr (by omega) (by omega) (by decide) (by decide)) ?_
            refine zi_sub hx hb d_JI_numberOfLeadingZeros_77 ?_
            exact W.iret hx hb hr (fun t ht hW => ⟨_, rfl, ⟨_, rfl, nlz_pos 0 1 (by decide) (by omega) (by omega) (by omega) (by omega) (by omega) (by omega)⟩, ht⟩) (fun q h => nomatch h) d_JI_numberOfLeadingZeros_78
          · refine lv_iinc (v := iZ (31 + (-2))) (lv' := [(1, .int (iZ (31 + (-2)))), (0, .int (iZ a))]) hx hb d_JI_numberOfLeadingZeros_66 hl (k := 0) rfl (iZ_add _ _) (by decide) rfl (fun ls hl => ?_)
            refine lv_iload_n hx hb d_JI_numberOfLeadingZeros_69 rfl (lv_at hl 1 rfl) ?_
            refine lv_iconst (v := iZ (2)) hx hb d_JI_numberOfLeadingZeros_70 rfl ?_
            refine lv_iushr (v := (iZ (a / 4))) hx hb d_JI_numberOfLeadingZeros_71 (iZ_ushr (by omega) (by omega) (by decide) (by decide)) ?_
            refine zn_z (fun v0_72 e_v0_72 => ?_)
            refine lv_istore_n (lv' := [(0, .int (iZ v0_72)), (1, .int (iZ (31 + (-2))))]) hx hb d_JI_numberOfLeadingZeros_72 rfl hl (by decide) rfl (fun ls hl => ?_)
            refine lv_iload_n hx hb d_JI_numberOfLeadingZeros_73 rfl (lv_at hl 1 rfl) ?_
            refine lv_iload_n hx hb d_JI_numberOfLeadingZeros_74 rfl (lv_at hl 0 rfl) ?_
            refine lv_iconst (v := iZ (1)) hx hb d_JI_numberOfLeadingZeros_75 rfl ?_
            refine lv_iushr (v := (iZ (v0_72 / 2))) hx hb d_JI_numberOfLeadingZeros_76 (iZ_ushr (by omega) (by omega) (by decide) (by decide)) ?_
            refine zi_sub hx hb d_JI_numberOfLeadingZeros_77 ?_
            exact W.iret hx hb hr (fun t ht hW => ⟨_, rfl, ⟨_, rfl, nlz_pos 2 4 (by decide) (by omega) (by omega) (by omega) (by omega) (by omega) (by omega)⟩, ht⟩) (fun q h => nomatch h) d_JI_numberOfLeadingZeros_78
        · refine lv_iinc (v := iZ (31 + (-4))) (lv' := [(1, .int (iZ (31 + (-4)))), (0, .int (iZ a))]) hx hb d_JI_numberOfLeadingZeros_54 hl (k := 0) rfl (iZ_add _ _) (by decide) rfl (fun ls hl => ?_)
          refine lv_iload_n hx hb d_JI_numberOfLeadingZeros_57 rfl (lv_at hl 1 rfl) ?_
          refine lv_iconst (v := iZ (4)) hx hb d_JI_numberOfLeadingZeros_58 rfl ?_
          refine lv_iushr (v := (iZ (a / 16))) hx hb d_JI_numberOfLeadingZeros_59 (iZ_ushr (by omega) (by omega) (by decide) (by decide)) ?_
          refine zn_z (fun v0_60 e_v0_60 => ?_)
          refine lv_istore_n (lv' := [(0, .int (iZ v0_60)), (1, .int (iZ (31 + (-4))))]) hx hb d_JI_numberOfLeadingZeros_60 rfl hl (by decide) rfl (fun ls hl => ?_)
          refine lv_iload_n hx hb d_JI_numberOfLeadingZeros_61 rfl (lv_at hl 0 rfl) ?_
          refine lv_iconst (v := iZ (4)) hx hb d_JI_numberOfLeadingZeros_62 rfl ?_
          refine zi_lt (tgt := 73) hx hb d_JI_numberOfLeadingZeros_63 (by decide) (by omega) (by omega) (by omega) (by omega) (fun c_63 => ?_) (fun c_63 => ?_)
          · refine lv_iload_n hx hb d_JI_numberOfLeadingZeros_73 rfl (lv_at hl 1 rfl) ?_
            refine lv_iload_n hx hb d_JI_numberOfLeadingZeros_74 rfl (lv_at hl 0 rfl) ?_
            refine lv_iconst (v := iZ (1)) hx hb d_JI_numberOfLeadingZeros_75 rfl ?_
            refine lv_iushr (v := (iZ (v0_60 / 2))) hx hb d_JI_numberOfLeadingZeros_76 (iZ_ushr (by omega) (by omega) (by decide) (by decide)) ?_
            refine zi_sub hx hb d_JI_numberOfLeadingZeros_77 ?_
            exact W.iret hx hb hr (fun t ht hW => ⟨_, rfl, ⟨_, rfl, nlz_pos 4 16 (by decide) (by omega) (by omega) (by omega) (by omega) (by omega) (by omega)⟩, ht⟩) (fun q h => nomatch h) d_JI_numberOfLeadingZeros_78
          · refine lv_iinc (v := iZ ((31 + (-4)) + (-2))) (lv' := [(1, .int (iZ ((31 + (-4)) + (-2)))), (0, .int (iZ v0_60))]) hx hb d_JI_numberOfLeadingZeros_66 hl (k := 1) rfl (iZ_add _ _) (by decide) rfl (fun ls hl => ?_)
            refine lv_iload_n hx hb d_JI_numberOfLeadingZeros_69 rfl (lv_at hl 1 rfl) ?_
            refine lv_iconst (v := iZ (2)) hx hb d_JI_numberOfLeadingZeros_70 rfl ?_
            refine lv_iushr (v := (iZ (v0_60 / 4))) hx hb d_JI_numberOfLeadingZeros_71 (iZ_ushr (by omega) (by omega) (by decide) (by decide)) ?_
            refine zn_z (fun v0_72 e_v0_72 => ?_)
            refine lv_istore_n (lv' := [(0, .int (iZ v0_72)), (1, .int (iZ ((31 + (-4)) + (-2))))]) hx hb d_JI_numberOfLeadingZeros_72 rfl hl (by decide) rfl (fun ls hl => ?_)
            refine lv_iload_n hx hb d_JI_numberOfLeadingZeros_73 rfl (lv_at hl 1 rfl) ?_
            refine lv_iload_n hx hb d_JI_numberOfLeadingZeros_74 rfl (lv_at hl 0 rfl) ?_
            refine lv_iconst (v := iZ (1)) hx hb d_JI_numberOfLeadingZeros_75 rfl ?_
            refine lv_iushr (v := (iZ (v0_72 / 2))) hx hb d_JI_numberOfLeadingZeros_76 (iZ_ushr (by omega) (by omega) (by decide) (by decide)) ?_
            refine zi_sub hx hb d_JI_numberOfLeadingZeros_77 ?_
            exact W.iret hx hb hr (fun t ht hW => ⟨_, rfl, ⟨_, rfl, nlz_pos 6 64 (by decide) (by omega) (by omega) (by omega) (by omega) (by omega) (by omega)⟩, ht⟩) (fun q h => nomatch h) d_JI_numberOfLeadingZeros_78
      · refine lv_iinc (v := iZ (31 + (-8))) (lv' := [(1, .int (iZ (31 + (-8)))), (0, .int (iZ a))]) hx hb d_JI_numberOfLeadingZeros_40 hl (k := 0) rfl (iZ_add _ _) (by decide) rfl (fun ls hl => ?_)
        refine lv_iload_n hx hb d_JI_numberOfLeadingZeros_43 rfl (lv_at hl 1 rfl) ?_
        refine lv_bipush (v := iZ (8)) hx hb d_JI_numberOfLeadingZeros_44 (by decide) ?_
        refine lv_iushr (v := (iZ (a / 256))) hx hb d_JI_numberOfLeadingZeros_46 (iZ_ushr (by omega) (by omega) (by decide) (by decide)) ?_
        refine zn_z (fun v0_47 e_v0_47 => ?_)
        refine lv_istore_n (lv' := [(0, .int (iZ v0_47)), (1, .int (iZ (31 + (-8))))]) hx hb d_JI_numberOfLeadingZeros_47 rfl hl (by decide) rfl (fun ls hl => ?_)
        refine lv_iload_n hx hb d_JI_numberOfLeadingZeros_48 rfl (lv_at hl 0 rfl) ?_
        refine lv_bipush (v := iZ (16)) hx hb d_JI_numberOfLeadingZeros_49 (by decide) ?_
        refine zi_lt (tgt := 61) hx hb d_JI_numberOfLeadingZeros_51 (by decide) (by omega) (by omega) (by omega) (by omega) (fun c_51 => ?_) (fun c_51 => ?_)
        · refine lv_iload_n hx hb d_JI_numberOfLeadingZeros_61 rfl (lv_at hl 0 rfl) ?_
          refine lv_iconst (v := iZ (4)) hx hb d_JI_numberOfLeadingZeros_62 rfl ?_
          refine zi_lt (tgt := 73) hx hb d_JI_numberOfLeadingZeros_63 (by decide) (by omega) (by omega) (by omega) (by omega) (fun c_63 => ?_) (fun c_63 => ?_)
          · refine lv_iload_n hx hb d_JI_numberOfLeadingZeros_73 rfl (lv_at hl 1 rfl) ?_
            refine lv_iload_n hx hb d_JI_numberOfLeadingZeros_74 rfl (lv_at hl 0 rfl) ?_
            refine lv_iconst (v := iZ (1)) hx hb d_JI_numberOfLeadingZeros_75 rfl ?_
            refine lv_iushr (v := (iZ (v0_47 / 2))) hx hb d_JI_numberOfLeadingZeros_76 (iZ_ushr (by omega) (by omega) (by decide) (by decide)) ?_
            refine zi_sub hx hb d_JI_numberOfLeadingZeros_77 ?_
            exact W.iret hx hb hr (fun t ht hW => ⟨_, rfl, ⟨_, rfl, nlz_pos 8 256 (by decide) (by omega) (by omega) (by omega) (by omega) (by omega) (by omega)⟩, ht⟩) (fun q h => nomatch h) d_JI_numberOfLeadingZeros_78
          · refine lv_iinc (v := iZ ((31 + (-8)) + (-2))) (lv' := [(1, .int (iZ ((31 + (-8)) + (-2)))), (0, .int (iZ v0_47))]) hx hb d_JI_numberOfLeadingZeros_66 hl (k := 1) rfl (iZ_add _ _) (by decide) rfl (fun ls hl => ?_)
            refine lv_iload_n hx hb d_JI_numberOfLeadingZeros_69 rfl (lv_at hl 1 rfl) ?_
            refine lv_iconst (v := iZ (2)) hx hb d_JI_numberOfLeadingZeros_70 rfl ?_
            refine lv_iushr (v := (iZ (v0_47 / 4))) hx hb d_JI_numberOfLeadingZeros_71 (iZ_ushr (by omega) (by omega) (by decide) (by decide)) ?_
            refine zn_z (fun v0_72 e_v0_72 => ?_)
            refine lv_istore_n (lv' := [(0, .int (iZ v0_72)), (1, .int (iZ ((31 + (-8)) + (-2))))]) hx hb d_JI_numberOfLeadingZeros_72 rfl hl (by decide) rfl (fun ls hl => ?_)
            refine lv_iload_n hx hb d_JI_numberOfLeadingZeros_73 rfl (lv_at hl 1 rfl) ?_
            refine lv_iload_n hx hb d_JI_numberOfLeadingZeros_74 rfl (lv_at hl 0 rfl) ?_
            refine lv_iconst (v := iZ (1)) hx hb d_JI_numberOfLeadingZeros_75 rfl ?_
            refine lv_iushr (v := (iZ (v0_72 / 2))) hx hb d_JI_numberOfLeadingZeros_76 (iZ_ushr (by omega) (by omega) (by decide) (by decide)) ?_
            refine zi_sub hx hb d_JI_numberOfLeadingZeros_77 ?_
            exact W.iret hx hb hr (fun t ht hW => ⟨_, rfl, ⟨_, rfl, nlz_pos 10 1024 (by decide) (by omega) (by omega) (by omega) (by omega) (by omega) (by omega)⟩, ht⟩) (fun q h => nomatch h) d_JI_numberOfLeadingZeros_78
        · refine lv_iinc (v := iZ ((31 + (-8)) + (-4))) (lv' := [(1, .int (iZ ((31 + (-8)) + (-4)))), (0, .int (iZ v0_47))]) hx hb d_JI_numberOfLeadingZeros_54 hl (k := 1) rfl (iZ_add _ _) (by decide) rfl (fun ls hl => ?_)
          refine lv_iload_n hx hb d_JI_numberOfLeadingZeros_57 rfl (lv_at hl 1 rfl) ?_
          refine lv_iconst (v := iZ (4)) hx hb d_JI_numberOfLeadingZeros_58 rfl ?_
          refine lv_iushr (v := (iZ (v0_47 / 16))) hx hb d_JI_numberOfLeadingZeros_59 (iZ_ushr (by omega) (by omega) (by decide) (by decide)) ?_
          refine zn_z (fun v0_60 e_v0_60 => ?_)
          refine lv_istore_n (lv' := [(0, .int (iZ v0_60)), (1, .int (iZ ((31 + (-8)) + (-4))))]) hx hb d_JI_numberOfLeadingZeros_60 rfl hl (by decide) rfl (fun ls hl => ?_)
          refine lv_iload_n hx hb d_JI_numberOfLeadingZeros_61 rfl (lv_at hl 0 rfl) ?_
          refine lv_iconst (v := iZ (4)) hx hb d_JI_numberOfLeadingZeros_62 rfl ?_
          refine zi_lt (tgt := 73) hx hb d_JI_numberOfLeadingZeros_63 (by decide) (by omega) (by omega) (by omega) (by omega) (fun c_63 => ?_) (fun c_63 => ?_)
          · refine lv_iload_n hx hb d_JI_numberOfLeadingZeros_73 rfl (lv_at hl 1 rfl) ?_
            refine lv_iload_n hx hb d_JI_numberOfLeadingZeros_74 rfl (lv_at hl 0 rfl) ?_
            refine lv_iconst (v := iZ (1)) hx hb d_JI_numberOfLeadingZeros_75 rfl ?_
            refine lv_iushr (v := (iZ (v0_60 / 2))) hx hb d_JI_numberOfLeadingZeros_76 (iZ_ushr (by omega) (by omega) (by decide) (by decide)) ?_
            refine zi_sub hx hb d_JI_numberOfLeadingZeros_77 ?_
            exact W.iret hx hb hr (fun t ht hW => ⟨_, rfl, ⟨_, rfl, nlz_pos 12 4096 (by decide) (by omega) (by omega) (by omega) (by omega) (by omega) (by omega)⟩, ht⟩) (fun q h => nomatch h) d_JI_numberOfLeadingZeros_78
          · refine lv_iinc (v := iZ (((31 + (-8)) + (-4)) + (-2))) (lv' := [(1, .int (iZ (((31 + (-8)) + (-4)) + (-2)))), (0, .int (iZ v0_60))]) hx hb d_JI_numberOfLeadingZeros_66 hl (k := 1) rfl (iZ_add _ _) (by decide) rfl (fun ls hl => ?_)
            refine lv_iload_n hx hb d_JI_numberOfLeadingZeros_69 rfl (lv_at hl 1 rfl) ?_
            refine lv_iconst (v := iZ (2)) hx hb d_JI_numberOfLeadingZeros_70 rfl ?_
            refine lv_iushr (v := (iZ (v0_60 / 4))) hx hb d_JI_numberOfLeadingZeros_71 (iZ_ushr (by omega) (by omega) (by decide) (by decide)) ?_
            refine zn_z (fun v0_72 e_v0_72 => ?_)
            refine lv_istore_n (lv' := [(0, .int (iZ v0_72)), (1, .int (iZ (((31 + (-8)) + (-4)) + (-2))))]) hx hb d_JI_numberOfLeadingZeros_72 rfl hl (by decide) rfl (fun ls hl => ?_)
            refine lv_iload_n hx hb d_JI_numberOfLeadingZeros_73 rfl (lv_at hl 1 rfl) ?_
            refine lv_iload_n hx hb d_JI_numberOfLeadingZeros_74 rfl (lv_at hl 0 rfl) ?_
            refine lv_iconst (v := iZ (1)) hx hb d_JI_numberOfLeadingZeros_75 rfl ?_
            refine lv_iushr (v := (iZ (v0_72 / 2))) hx hb d_JI_numberOfLeadingZeros_76 (iZ_ushr (by omega) (by omega) (by decide) (by decide)) ?_
            refine zi_sub hx hb d_JI_numberOfLeadingZeros_77 ?_
            exact W.iret hx hb hr (fun t ht hW => ⟨_, rfl, ⟨_, rfl, nlz_pos 14 16384 (by decide) (by omega) (by omega) (by omega) (by omega) (by omega) (by omega)⟩, ht⟩) (fun q h => nomatch h) d_JI_numberOfLeadingZeros_78
    · refine lv_iinc (v := iZ (31 + (-16))) (lv' := [(1, .int (iZ (31 + (-16)))), (0, .int (iZ a))]) hx hb d_JI_numberOfLeadingZeros_25 hl (k := 0) rfl (iZ_add _ _) (by decide) rfl (fun ls hl => ?_)
      refine lv_iload_n hx hb d_JI_numberOfLeadingZeros_28 rfl (lv_at hl 1 rfl) ?_
      refine lv_bipush (v := iZ (16)) hx hb d_JI_numberOfLeadingZeros_29 (by decide) ?_
      refine lv_iushr (v := (iZ (a / 65536))) hx hb d_JI_numberOfLeadingZeros_31 (iZ_ushr (by omega) (by omega) (by decide) (by decide)) ?_
      refine zn_z (fun v0_32 e_v0_32 => ?_)
      refine lv_istore_n (lv' := [(0, .int (iZ v0_32)), (1, .int (iZ (31 + (-16))))]) hx hb d_JI_numberOfLeadingZeros_32 rfl hl (by decide) rfl (fun ls hl => ?_)
      refine lv_iload_n hx hb d_JI_numberOfLeadingZeros_33 rfl (lv_at hl 0 rfl) ?_
      refine lv_sipush (v := iZ (256)) hx hb d_JI_numberOfLeadingZeros_34 (by decide) ?_
      refine zi_lt (tgt := 48) hx hb d_JI_numberOfLeadingZeros_37 (by decide) (by omega) (by omega) (by omega) (by omega) (fun c_37 => ?_) (fun c_37 => ?_)
      · refine lv_iload_n hx hb d_JI_numberOfLeadingZeros_48 rfl (lv_at hl 0 rfl) ?_
        refine lv_bipush (v := iZ (16)) hx hb d_JI_numberOfLeadingZeros_49 (by decide) ?_
        refine zi_lt (tgt := 61) hx hb d_JI_numberOfLeadingZeros_51 (by decide) (by omega) (by omega) (by omega) (by omega) (fun c_51 => ?_) (fun c_51 => ?_)
        · refine lv_iload_n hx hb d_JI_numberOfLeadingZeros_61 rfl (lv_at hl 0 rfl) ?_
          refine lv_iconst (v := iZ (4)) hx hb d_JI_numberOfLeadingZeros_62 rfl ?_
          refine zi_lt (tgt := 73) hx hb d_JI_numberOfLeadingZeros_63 (by decide) (by omega) (by omega) (by omega) (by omega) (fun c_63 => ?_) (fun c_63 => ?_)
          · refine lv_iload_n hx hb d_JI_numberOfLeadingZeros_73 rfl (lv_at hl 1 rfl) ?_
            refine lv_iload_n hx hb d_JI_numberOfLeadingZeros_74 rfl (lv_at hl 0 rfl) ?_
            refine lv_iconst (v := iZ (1)) hx hb d_JI_numberOfLeadingZeros_75 rfl ?_
            refine lv_iushr (v := (iZ (v0_32 / 2))) hx hb d_JI_numberOfLeadingZeros_76 (iZ_ushr (by omega) (by omega) (by decide) (by decide)) ?_
            refine zi_sub hx hb d_JI_numberOfLeadingZeros_77 ?_
            exact W.iret hx hb hr (fun t ht hW => ⟨_, rfl, ⟨_, rfl, nlz_pos 16 65536 (by decide) (by omega) (by omega) (by omega) (by omega) (by omega) (by omega)⟩, ht⟩) (fun q h => nomatch h) d_JI_numberOfLeadingZeros_78
          · refine lv_iinc (v := iZ ((31 + (-16)) + (-2))) (lv' := [(1, .int (iZ ((31 + (-16)) + (-2)))), (0, .int (iZ v0_32))]) hx hb d_JI_numberOfLeadingZeros_66 hl (k := 1) rfl (iZ_add _ _) (by decide) rfl (fun ls hl => ?_)
            refine lv_iload_n hx hb d_JI_numberOfLeadingZeros_69 rfl (lv_at hl 1 rfl) ?_
            refine lv_iconst (v := iZ (2)) hx hb d_JI_numberOfLeadingZeros_70 rfl ?_
            refine lv_iushr (v := (iZ (v0_32 / 4))) hx hb d_JI_numberOfLeadingZeros_71 (iZ_ushr (by omega) (by omega) (by decide) (by decide)) ?_
            refine zn_z (fun v0_72 e_v0_72 => ?_)
            refine lv_istore_n (lv' := [(0, .int (iZ v0_72)), (1, .int (iZ ((31 + (-16)) + (-2))))]) hx hb d_JI_numberOfLeadingZeros_72 rfl hl (by decide) rfl (fun ls hl => ?_)
            refine lv_iload_n hx hb d_JI_numberOfLeadingZeros_73 rfl (lv_at hl 1 rfl) ?_
            refine lv_iload_n hx hb d_JI_numberOfLeadingZeros_74 rfl (lv_at hl 0 rfl) ?_
            refine lv_iconst (v := iZ (1)) hx hb d_JI_numberOfLeadingZeros_75 rfl ?_
            refine lv_iushr (v := (iZ (v0_72 / 2))) hx hb d_JI_numberOfLeadingZeros_76 (iZ_ushr (by omega) (by omega) (by decide) (by decide)) ?_
            refine zi_sub hx hb d_JI_numberOfLeadingZeros_77 ?_
            exact W.iret hx hb hr (fun t ht hW => ⟨_, rfl, ⟨_, rfl, nlz_pos 18 262144 (by decide) (by omega) (by omega) (by omega) (by omega) (by omega) (by omega)⟩, ht⟩) (fun q h => nomatch h) d_JI_numberOfLeadingZeros_78
        · refine lv_iinc (v := iZ ((31 + (-16)) + (-4))) (lv' := [(1, .int (iZ ((31 + (-16)) + (-4)))), (0, .int (iZ v0_32))]) hx hb d_JI_numberOfLeadingZeros_54 hl (k := 1) rfl (iZ_add _ _) (by decide) rfl (fun ls hl => ?_)
          refine lv_iload_n hx hb d_JI_numberOfLeadingZeros_57 rfl (lv_at hl 1 rfl) ?_
          refine lv_iconst (v := iZ (4)) hx hb d_JI_numberOfLeadingZeros_58 rfl ?_
          refine lv_iushr (v := (iZ (v0_32 / 16))) hx hb d_JI_numberOfLeadingZeros_59 (iZ_ushr (by omega) (by omega) (by decide) (by decide)) ?_
          refine zn_z (fun v0_60 e_v0_60 => ?_)
          refine lv_istore_n (lv' := [(0, .int (iZ v0_60)), (1, .int (iZ ((31 + (-16)) + (-4))))]) hx hb d_JI_numberOfLeadingZeros_60 rfl hl (by decide) rfl (fun ls hl => ?_)
          refine lv_iload_n hx hb d_JI_numberOfLeadingZeros_61 rfl (lv_at hl 0 rfl) ?_
          refine lv_iconst (v := iZ (4)) hx hb d_JI_numberOfLeadingZeros_62 rfl ?_
          refine zi_lt (tgt := 73) hx hb d_JI_numberOfLeadingZeros_63 (by decide) (by omega) (by omega) (by omega) (by omega) (fun c_63 => ?_) (fun c_63 => ?_)
          · refine lv_iload_n hx hb d_JI_numberOfLeadingZeros_73 rfl (lv_at hl 1 rfl) ?_
            refine lv_iload_n hx hb d_JI_numberOfLeadingZeros_74 rfl (lv_at hl 0 rfl) ?_
            refine lv_iconst (v := iZ (1)) hx hb d_JI_numberOfLeadingZeros_75 rfl ?_
            refine lv_iushr (v := (iZ (v0_60 / 2))) hx hb d_JI_numberOfLeadingZeros_76 (iZ_ushr (by omega) (by omega) (by decide) (by decide)) ?_
            refine zi_sub hx hb d_JI_numberOfLeadingZeros_77 ?_
            exact W.iret hx hb hr (fun t ht hW => ⟨_, rfl, ⟨_, rfl, nlz_pos 20 1048576 (by decide) (by omega) (by omega) (by omega) (by omega) (by omega) (by omega)⟩, ht⟩) (fun q h => nomatch h) d_JI_numberOfLeadingZeros_78
          · refine lv_iinc (v := iZ (((31 + (-16)) + (-4)) + (-2))) (lv' := [(1, .int (iZ (((31 + (-16)) + (-4)) + (-2)))), (0, .int (iZ v0_60))]) hx hb d_JI_numberOfLeadingZeros_66 hl (k := 1) rfl (iZ_add _ _) (by decide) rfl (fun ls hl => ?_)
            refine lv_iload_n hx hb d_JI_numberOfLeadingZeros_69 rfl (lv_at hl 1 rfl) ?_
            refine lv_iconst (v := iZ (2)) hx hb d_JI_numberOfLeadingZeros_70 rfl ?_
            refine lv_iushr (v := (iZ (v0_60 / 4))) hx hb d_JI_numberOfLeadingZeros_71 (iZ_ushr (by omega) (by omega) (by decide) (by decide)) ?_
            refine zn_z (fun v0_72 e_v0_72 => ?_)
            refine lv_istore_n (lv' := [(0, .int (iZ v0_72)), (1, .int (iZ (((31 + (-16)) + (-4)) + (-2))))]) hx hb d_JI_numberOfLeadingZeros_72 rfl hl (by decide) rfl (fun ls hl => ?_)
            refine lv_iload_n hx hb d_JI_numberOfLeadingZeros_73 rfl (lv_at hl 1 rfl) ?_
            refine lv_iload_n hx hb d_JI_numberOfLeadingZeros_74 rfl (lv_at hl 0 rfl) ?_
            refine lv_iconst (v := iZ (1)) hx hb d_JI_numberOfLeadingZeros_75 rfl ?_
            refine lv_iushr (v := (iZ (v0_72 / 2))) hx hb d_JI_numberOfLeadingZeros_76 (iZ_ushr (by omega) (by omega) (by decide) (by decide)) ?_
            refine zi_sub hx hb d_JI_numberOfLeadingZeros_77 ?_
            exact W.iret hx hb hr (fun t ht hW => ⟨_, rfl, ⟨_, rfl, nlz_pos 22 4194304 (by decide) (by omega) (by omega) (by omega) (by omega) (by omega) (by omega)⟩, ht⟩) (fun q h => nomatch h) d_JI_numberOfLeadingZeros_78
      · refine lv_iinc (v := iZ ((31 + (-16)) + (-8))) (lv' := [(1, .int (iZ ((31 + (-16)) + (-8)))), (0, .int (iZ v0_32))]) hx hb d_JI_numberOfLeadingZeros_40 hl (k := 1) rfl (iZ_add _ _) (by decide) rfl (fun ls hl => ?_)
        refine lv_iload_n hx hb d_JI_numberOfLeadingZeros_43 rfl (lv_at hl 1 rfl) ?_
        refine lv_bipush (v := iZ (8)) hx hb d_JI_numberOfLeadingZeros_44 (by decide) ?_
        refine lv_iushr (v := (iZ (v0_32 / 256))) hx hb d_JI_numberOfLeadingZeros_46 (iZ_ushr (by omega) (by omega) (by decide) (by decide)) ?_
        refine zn_z (fun v0_47 e_v0_47 => ?_)
        refine lv_istore_n (lv' := [(0, .int (iZ v0_47)), (1, .int (iZ ((31 + (-16)) + (-8))))]) hx hb d_JI_numberOfLeadingZeros_47 rfl hl (by decide) rfl (fun ls hl => ?_)
        refine lv_iload_n hx hb d_JI_numberOfLeadingZeros_48 rfl (lv_at hl 0 rfl) ?_
        refine lv_bipush (v := iZ (16)) hx hb d_JI_numberOfLeadingZeros_49 (by decide) ?_
        refine zi_lt (tgt := 61) hx hb d_JI_numberOfLeadingZeros_51 (by decide) (by omega) (by omega) (by omega) (by omega) (fun c_51 => ?_) (fun c_51 => ?_)
        · refine lv_iload_n hx hb d_JI_numberOfLeadingZeros_61 rfl (lv_at hl 0 rfl) ?_
          refine lv_iconst (v := iZ (4)) hx hb d_JI_numberOfLeadingZeros_62 rfl ?_
          refine zi_lt (tgt := 73) hx hb d_JI_numberOfLeadingZeros_63 (by decide) (by omega) (by omega) (by omega) (by omega) (fun c_63 => ?_) (fun c_63 => ?_)
          · refine lv_iload_n hx hb d_JI_numberOfLeadingZeros_73 rfl (lv_at hl 1 rfl) ?_
            refine lv_iload_n hx hb d_JI_numberOfLeadingZeros_74 rfl (lv_at hl 0 rfl) ?_
            refine lv_iconst (v := iZ (1)) hx hb d_JI_numberOfLeadingZeros_75 rfl ?_
            refine lv_iushr (v := (iZ (v0_47 / 2))) hx hb d_JI_numberOfLeadingZeros_76 (iZ_ushr (by omega) (by omega) (by decide) (by decide)) ?_
            refine zi_sub hx hb d_JI_numberOfLeadingZeros_77 ?_
            exact W.iret hx hb hr (fun t ht hW => ⟨_, rfl, ⟨_, rfl, nlz_pos 24 16777216 (by decide) (by omega) (by omega) (by omega) (by omega) (by omega) (by omega)⟩, ht⟩) (fun q h => nomatch h) d_JI_numberOfLeadingZeros_78
          · refine lv_iinc (v := iZ (((31 + (-16)) + (-8)) + (-2))) (lv' := [(1, .int (iZ (((31 + (-16)) + (-8)) + (-2)))), (0, .int (iZ v0_47))]) hx hb d_JI_numberOfLeadingZeros_66 hl (k := 1) rfl (iZ_add _ _) (by decide) rfl (fun ls hl => ?_)
            refine lv_iload_n hx hb d_JI_numberOfLeadingZeros_69 rfl (lv_at hl 1 rfl) ?_
            refine lv_iconst (v := iZ (2)) hx hb d_JI_numberOfLeadingZeros_70 rfl ?_
            refine lv_iushr (v := (iZ (v0_47 / 4))) hx hb d_JI_numberOfLeadingZeros_71 (iZ_ushr (by omega) (by omega) (by decide) (by decide)) ?_
            refine zn_z (fun v0_72 e_v0_72 => ?_)
            refine lv_istore_n (lv' := [(0, .int (iZ v0_72)), (1, .int (iZ (((31 + (-16)) + (-8)) + (-2))))]) hx hb d_JI_numberOfLeadingZeros_72 rfl hl (by decide) rfl (fun ls hl => ?_)
            refine lv_iload_n hx hb d_JI_numberOfLeadingZeros_73 rfl (lv_at hl 1 rfl) ?_
            refine lv_iload_n hx hb d_JI_numberOfLeadingZeros_74 rfl (lv_at hl 0 rfl) ?_
            refine lv_iconst (v := iZ (1)) hx hb d_JI_numberOfLeadingZeros_75 rfl ?_
            refine lv_iushr (v := (iZ (v0_72 / 2))) hx hb d_JI_numberOfLeadingZeros_76 (iZ_ushr (by omega) (by omega) (by decide) (by decide)) ?_
            refine zi_sub hx hb d_JI_numberOfLeadingZeros_77 ?_
            exact W.iret hx hb hr (fun t ht hW => ⟨_, rfl, ⟨_, rfl, nlz_pos 26 67108864 (by decide) (by omega) (by omega) (by omega) (by omega) (by omega) (by omega)⟩, ht⟩) (fun q h => nomatch h) d_JI_numberOfLeadingZeros_78
        · refine lv_iinc (v := iZ (((31 + (-16)) + (-8)) + (-4))) (lv' := [(1, .int (iZ (((31 + (-16)) + (-8)) + (-4)))), (0, .int (iZ v0_47))]) hx hb d_JI_numberOfLeadingZeros_54 hl (k := 1) rfl (iZ_add _ _) (by decide) rfl (fun ls hl => ?_)
          refine lv_iload_n hx hb d_JI_numberOfLeadingZeros_57 rfl (lv_at hl 1 rfl) ?_
          refine lv_iconst (v := iZ (4)) hx hb d_JI_numberOfLeadingZeros_58 rfl ?_
          refine lv_iushr (v := (iZ (v0_47 / 16))) hx hb d_JI_numberOfLeadingZeros_59 (iZ_ushr (by omega) (by omega) (by decide) (by decide)) ?_
          refine zn_z (fun v0_60 e_v0_60 => ?_)
          refine lv_istore_n (lv' := [(0, .int (iZ v0_60)), (1, .int (iZ (((31 + (-16)) + (-8)) + (-4))))]) hx hb d_JI_numberOfLeadingZeros_60 rfl hl (by decide) rfl (fun ls hl => ?_)
          refine lv_iload_n hx hb d_JI_numberOfLeadingZeros_61 rfl (lv_at hl 0 rfl) ?_
          refine lv_iconst (v := iZ (4)) hx hb d_JI_numberOfLeadingZeros_62 rfl ?_
          refine zi_lt (tgt := 73) hx hb d_JI_numberOfLeadingZeros_63 (by decide) (by omega) (by omega) (by omega) (by omega) (fun c_63 => ?_) (fun c_63 => ?_)
          · refine lv_iload_n hx hb d_JI_numberOfLeadingZeros_73 rfl (lv_at hl 1 rfl) ?_
            refine lv_iload_n hx hb d_JI_numberOfLeadingZeros_74 rfl (lv_at hl 0 rfl) ?_
            refine lv_iconst (v := iZ (1)) hx hb d_JI_numberOfLeadingZeros_75 rfl ?_
            refine lv_iushr (v := (iZ (v0_60 / 2))) hx hb d_JI_numberOfLeadingZeros_76 (iZ_ushr (by omega) (by omega) (by decide) (by decide)) ?_
            refine zi_sub hx hb d_JI_numberOfLeadingZeros_77 ?_
            exact W.iret hx hb hr (fun t ht hW => ⟨_, rfl, ⟨_, rfl, nlz_pos 28 268435456 (by decide) (by omega) (by omega) (by omega) (by omega) (by omega) (by omega)⟩, ht⟩) (fun q h => nomatch h) d_JI_numberOfLeadingZeros_78
          · refine lv_iinc (v := iZ ((((31 + (-16)) + (-8)) + (-4)) + (-2))) (lv' := [(1, .int (iZ ((((31 + (-16)) + (-8)) + (-4)) + (-2)))), (0, .int (iZ v0_60))]) hx hb d_JI_numberOfLeadingZeros_66 hl (k := 1) rfl (iZ_add _ _) (by decide) rfl (fun ls hl => ?_)
            refine lv_iload_n hx hb d_JI_numberOfLeadingZeros_69 rfl (lv_at hl 1 rfl) ?_
            refine lv_iconst (v := iZ (2)) hx hb d_JI_numberOfLeadingZeros_70 rfl ?_
            refine lv_iushr (v := (iZ (v0_60 / 4))) hx hb d_JI_numberOfLeadingZeros_71 (iZ_ushr (by omega) (by omega) (by decide) (by decide)) ?_
            refine zn_z (fun v0_72 e_v0_72 => ?_)
            refine lv_istore_n (lv' := [(0, .int (iZ v0_72)), (1, .int (iZ ((((31 + (-16)) + (-8)) + (-4)) + (-2))))]) hx hb d_JI_numberOfLeadingZeros_72 rfl hl (by decide) rfl (fun ls hl => ?_)
            refine lv_iload_n hx hb d_JI_numberOfLeadingZeros_73 rfl (lv_at hl 1 rfl) ?_
            refine lv_iload_n hx hb d_JI_numberOfLeadingZeros_74 rfl (lv_at hl 0 rfl) ?_
            refine lv_iconst (v := iZ (1)) hx hb d_JI_numberOfLeadingZeros_75 rfl ?_
            refine lv_iushr (v := (iZ (v0_72 / 2))) hx hb d_JI_numberOfLeadingZeros_76 (iZ_ushr (by omega) (by omega) (by decide) (by decide)) ?_
            refine zi_sub hx hb d_JI_numberOfLeadingZeros_77 ?_
            exact W.iret hx hb hr (fun t ht hW => ⟨_, rfl, ⟨_, rfl, nlz_pos 30 1073741824 (by decide) (by omega) (by omega) (by omega) (by omega) (by omega) (by omega)⟩, ht⟩) (fun q h => nomatch h) d_JI_numberOfLeadingZeros_78
  · refine lv_iload_n hx hb d_JI_numberOfLeadingZeros_4 rfl (lv_at hl 0 rfl) ?_
    refine zi_if_ne (tgt := 13) hx hb d_JI_numberOfLeadingZeros_5 (by decide) (by omega) (by omega) (fun c_5 => ?_) (fun c_5 => ?_)
    · refine lv_iconst (v := iZ (0)) hx hb d_JI_numberOfLeadingZeros_13 rfl ?_
      exact W.iret hx hb hr (fun t ht hW => ⟨_, rfl, ⟨0, rfl, Or.inr (Or.inl ⟨by omega, rfl⟩), by decide, by decide⟩, ht⟩) (fun q h => nomatch h) d_JI_numberOfLeadingZeros_14
    · refine lv_bipush (v := iZ (32)) hx hb d_JI_numberOfLeadingZeros_8 (by decide) ?_
      refine lv_goto (tgt := 14) hx hb d_JI_numberOfLeadingZeros_10 (by decide) ?_
      exact W.iret hx hb hr (fun t ht hW => ⟨_, rfl, ⟨32, rfl, Or.inl ⟨by omega, rfl⟩, by decide, by decide⟩, ht⟩) (fun q h => nomatch h) d_JI_numberOfLeadingZeros_14
theorem d_JI_numberOfTrailingZeros_0 : decode c_yJI_numberOfTrailingZeros 0 = .ok (.iload_n 0, 1) := by decide +kernel
theorem d_JI_numberOfTrailingZeros_1 : decode c_yJI_numberOfTrailingZeros 1 = .ok (.iconst (-1), 1) := by decide +kernel
theorem d_JI_numberOfTrailingZeros_2 : decode c_yJI_numberOfTrailingZeros 2 = .ok (.ixor, 1) := by decide +kernel
theorem d_JI_numberOfTrailingZeros_3 : decode c_yJI_numberOfTrailingZeros 3 = .ok (.iload_n 0, 1) := by decide +kernel
theorem d_JI_numberOfTrailingZeros_4 : decode c_yJI_numberOfTrailingZeros 4 = .ok (.iconst 1, 1) := by decide +kernel
theorem d_JI_numberOfTrailingZeros_5 : decode c_yJI_numberOfTrailingZeros 5 = .ok (.isub, 1) := by decide +kernel
theorem d_JI_numberOfTrailingZeros_6 : decode c_yJI_numberOfTrailingZeros 6 = .ok (.iand, 1) := by decide +kernel
theorem d_JI_numberOfTrailingZeros_7 : decode c_yJI_numberOfTrailingZeros 7 = .ok (.istore_n 0, 1) := by decide +kernel
theorem d_JI_numberOfTrailingZeros_8 : decode c_yJI_numberOfTrailingZeros 8 = .ok (.iload_n 0, 1) := by decide +kernel
theorem d_JI_numberOfTrailingZeros_9 : decode c_yJI_numberOfTrailingZeros 9 = .ok (.ifCond .gt 8, 3) := by decide +kernel
theorem d_JI_numberOfTrailingZeros_12 : decode c_yJI_numberOfTrailingZeros 12 = .ok (.iload_n 0, 1) := by decide +kernel
theorem d_JI_numberOfTrailingZeros_13 : decode c_yJI_numberOfTrailingZeros 13 = .ok (.bipush 32, 2) := by decide +kernel
theorem d_JI_numberOfTrailingZeros_15 : decode c_yJI_numberOfTrailingZeros 15 = .ok (.iand, 1) := by decide +kernel
theorem d_JI_numberOfTrailingZeros_16 : decode c_yJI_numberOfTrailingZeros 16 = .ok (.ireturn, 1) := by decide +kernel
theorem d_JI_numberOfTrailingZeros_17 : decode c_yJI_numberOfTrailingZeros 17 = .ok (.iconst 1, 1) := by decide +kernel
theorem d_JI_numberOfTrailingZeros_18 : decode c_yJI_numberOfTrailingZeros 18 = .ok (.istore_n 1, 1) := by decide +kernel
theorem d_JI_numberOfTrailingZeros_19 : decode c_yJI_numberOfTrailingZeros 19 = .ok (.iload_n 0, 1) := by decide +kernel
theorem d_JI_numberOfTrailingZeros_20 : decode c_yJI_numberOfTrailingZeros 20 = .ok (.ldc_w 264, 3) := by decide +kernel
theorem d_JI_numberOfTrailingZeros_23 : decode c_yJI_numberOfTrailingZeros 23 = .ok (.if_icmp .le 11, 3) := by decide +kernel
theorem d_JI_numberOfTrailingZeros_26 : decode c_yJI_numberOfTrailingZeros 26 = .ok (.iinc 1 16, 3) := by decide +kernel
theorem d_JI_numberOfTrailingZeros_29 : decode c_yJI_numberOfTrailingZeros 29 = .ok (.iload_n 0, 1) := by decide +kernel
theorem d_JI_numberOfTrailingZeros_30 : decode c_yJI_numberOfTrailingZeros 30 = .ok (.bipush 16, 2) := by decide +kernel
theorem d_JI_numberOfTrailingZeros_32 : decode c_yJI_numberOfTrailingZeros 32 = .ok (.iushr, 1) := by decide +kernel
theorem d_JI_numberOfTrailingZeros_33 : decode c_yJI_numberOfTrailingZeros 33 = .ok (.istore_n 0, 1) := by decide +kernel
theorem d_JI_numberOfTrailingZeros_34 : decode c_yJI_numberOfTrailingZeros 34 = .ok (.iload_n 0, 1) := by decide +kernel
theorem d_JI_numberOfTrailingZeros_35 : decode c_yJI_numberOfTrailingZeros 35 = .ok (.sipush 256, 3) := by decide +kernel
theorem d_JI_numberOfTrailingZeros_38 : decode c_yJI_numberOfTrailingZeros 38 = .ok (.if_icmp .le 11, 3) := by decide +kernel
theorem d_JI_numberOfTrailingZeros_41 : decode c_yJI_numberOfTrailingZeros 41 = .ok (.iinc 1 8, 3) := by decide +kernel
theorem d_JI_numberOfTrailingZeros_44 : decode c_yJI_numberOfTrailingZeros 44 = .ok (.iload_n 0, 1) := by decide +kernel
theorem d_JI_numberOfTrailingZeros_45 : decode c_yJI_numberOfTrailingZeros 45 = .ok (.bipush 8, 2) := by decide +kernel
theorem d_JI_numberOfTrailingZeros_47 : decode c_yJI_numberOfTrailingZeros 47 = .ok (.iushr, 1) := by decide +kernel
theorem d_JI_numberOfTrailingZeros_48 : decode c_yJI_numberOfTrailingZeros 48 = .ok (.istore_n 0, 1) := by decide +kernel
theorem d_JI_numberOfTrailingZeros_49 : decode c_yJI_numberOfTrailingZeros 49 = .ok (.iload_n 0, 1) := by decide +kernel
theorem d_JI_numberOfTrailingZeros_50 : decode c_yJI_numberOfTrailingZeros 50 = .ok (.bipush 16, 2) := by decide +kernel
theorem d_JI_numberOfTrailingZeros_52 : decode c_yJI_numberOfTrailingZeros 52 = .ok (.if_icmp .le 10, 3) := by decide +kernel
theorem d_JI_numberOfTrailingZeros_55 : decode c_yJI_numberOfTrailingZeros 55 = .ok (.iinc 1 4, 3) := by decide +kernel
theorem d_JI_numberOfTrailingZeros_58 : decode c_yJI_numberOfTrailingZeros 58 = .ok (.iload_n 0, 1) := by decide +kernel
theorem d_JI_numberOfTrailingZeros_59 : decode c_yJI_numberOfTrailingZeros 59 = .ok (.iconst 4, 1) := by decide +kernel
theorem d_JI_numberOfTrailingZeros_60 : decode c_yJI_numberOfTrailingZeros 60 = .ok (.iushr, 1) := by decide +kernel
theorem d_JI_numberOfTrailingZeros_61 : decode c_yJI_numberOfTrailingZeros 61 = .ok (.istore_n 0, 1) := by decide +kernel
theorem d_JI_numberOfTrailingZeros_62 : decode c_yJI_numberOfTrailingZeros 62 = .ok (.iload_n 0, 1) := by decide +kernel
theorem d_JI_numberOfTrailingZeros_63 : decode c_yJI_numberOfTrailingZeros 63 = .ok (.iconst 4, 1) := by decide +kernel
theorem d_JI_numberOfTrailingZeros_64 : decode c_yJI_numberOfTrailingZeros 64 = .ok (.if_icmp .le 10, 3) := by decide +kernel
theorem d_JI_numberOfTrailingZeros_67 : decode c_yJI_numberOfTrailingZeros 67 = .ok (.iinc 1 2, 3) := by decide +kernel
theorem d_JI_numberOfTrailingZeros_70 : decode c_yJI_numberOfTrailingZeros 70 = .ok (.iload_n 0, 1) := by decide +kernel
theorem d_JI_numberOfTrailingZeros_71 : decode c_yJI_numberOfTrailingZeros 71 = .ok (.iconst 2, 1) := by decide +kernel
theorem d_JI_numberOfTrailingZeros_72 : decode c_yJI_numberOfTrailingZeros 72 = .ok (.iushr, 1) := by decide +kernel
theorem d_JI_numberOfTrailingZeros_73 : decode c_yJI_numberOfTrailingZeros 73 = .ok (.istore_n 0, 1) := by decide +kernel
theorem d_JI_numberOfTrailingZeros_74 : decode c_yJI_numberOfTrailingZeros 74 = .ok (.iload_n 1, 1) := by decide +kernel
theorem d_JI_numberOfTrailingZeros_75 : decode c_yJI_numberOfTrailingZeros 75 = .ok (.iload_n 0, 1) := by decide +kernel
theorem d_JI_numberOfTrailingZeros_76 : decode c_yJI_numberOfTrailingZeros 76 = .ok (.iconst 1, 1) := by decide +kernel
theorem d_JI_numberOfTrailingZeros_77 : decode c_yJI_numberOfTrailingZeros 77 = .ok (.iushr, 1) := by decide +kernel
theorem d_JI_numberOfTrailingZeros_78 : decode c_yJI_numberOfTrailingZeros 78 = .ok (.iadd, 1) := by decide +kernel
theorem d_JI_numberOfTrailingZeros_79 : decode c_yJI_numberOfTrailingZeros 79 = .ok (.ireturn, 1) := by decide +kernel
set_option maxHeartbeats 4000000 in
set_option maxRecDepth 100000 in
theorem c_Integer_ntz (l : Launch) (dC : Nat → ClassId) (dI : Nat → Nat → Nat) (w : Int32)  : Met l y_JI_numberOfTrailingZeros w_JI_numberOfTrailingZeros ({ frames := 0, cells := 0, slots := 0, locals := 0 }) (va_Pc [.int w] (zPr (dC, dI) vwCl [] [])) (vp_Si (fun r => ∃ z : Int, r = iZ z ∧ ntzS w z ∧ 0 ≤ z ∧ z ≤ 33)) 0 0 (fun _ => False) := by
  refine va_MetF (cc := c_yJI_numberOfTrailingZeros) (maxL := 2) (ret := (some .int)) (by decide +kernel) rfl ?_
  intro p e s m args below meth c s₁ B hml hv
  obtain ⟨rfl, hP, hK⟩ := hv
  have hx := B.exec
  have hb := B.bytes
  have hr := B.returns
  have hts0 := atoms_spec (ws := w_JI_numberOfTrailingZeros) B.pre
  have hts : ∀ w ∈ gT, w.before _ s = true := fun w h => hts0 w (List.mem_cons_of_mem _ h)
  have hown : s.vm.findClass R_JI = some m.cls := findClass_of_methodNamed B.named
  have hlocks := B.notSynchronized
  have hl := lv_entry ([.int w]) (n := 2) (Nat.le_of_ble_eq_true rfl)
  rw [lg_entry_eq]
  generalize (lg_sl ([.int w]) ++ List.replicate (2 - (lg_sl ([.int w])).length) Slot.unset).toArray = ls at hl ⊢
  have hl : lv_has ls 2 [(0, .int w)] := hl
  refine lv_iload_n hx hb d_JI_numberOfTrailingZeros_0 rfl (lv_at hl 0 rfl) ?_
  refine lv_iconst (v := iZ (-1)) hx hb d_JI_numberOfTrailingZeros_1 rfl ?_
  refine lv_ixor hx hb d_JI_numberOfTrailingZeros_2 ?_
  refine lv_iload_n hx hb d_JI_numberOfTrailingZeros_3 rfl (lv_at hl 0 rfl) ?_
  refine lv_iconst (v := iZ (1)) hx hb d_JI_numberOfTrailingZeros_4 rfl ?_
  refine lv_isub hx hb d_JI_numberOfTrailingZeros_5 ?_
  refine lv_iand hx hb d_JI_numberOfTrailingZeros_6 ?_
  obtain ⟨y, ey, y1, y2, yc⟩ := ntz_x w
  refine zn_eq (v2 := .int (iZ y)) (congrArg Value.int (ey)) ?_
  refine lv_istore_n (lv' := [(0, .int (iZ y))]) hx hb d_JI_numberOfTrailingZeros_7 rfl hl (by decide) rfl (fun ls hl => ?_)
  refine lv_iload_n hx hb d_JI_numberOfTrailingZeros_8 rfl (lv_at hl 0 rfl) ?_
  refine zi_if_gt (tgt := 17) hx hb d_JI_numberOfTrailingZeros_9 (by decide) (by omega) (by omega) (fun c_9 => ?_) (fun c_9 => ?_)
  · refine lv_iconst (v := iZ (1)) hx hb d_JI_numberOfTrailingZeros_17 rfl ?_
    refine lv_istore_n (lv' := [(1, .int (iZ 1)), (0, .int (iZ y))]) hx hb d_JI_numberOfTrailingZeros_18 rfl hl (by decide) rfl (fun ls hl => ?_)
    refine lv_iload_n hx hb d_JI_numberOfTrailingZeros_19 rfl (lv_at hl 1 rfl) ?_
    refine lv_ldcw (v := iZ (65536)) hx hb hown (hts _ t_599) d_JI_numberOfTrailingZeros_20 ?_
    refine zi_le (tgt := 34) hx hb d_JI_numberOfTrailingZeros_23 (by decide) (by omega) (by omega) (by omega) (by omega) (fun c_23 => ?_) (fun c_23 => ?_)
    · refine lv_iload_n hx hb d_JI_numberOfTrailingZeros_34 rfl (lv_at hl 1 rfl) ?_
      refine lv_sipush (v := iZ (256)) hx hb d_JI_numberOfTrailingZeros_35 (by decide) ?_
      refine zi_le (tgt := 49) hx hb d_JI_numberOfTrailingZeros_38 (by decide) (by omega) (by omega) (by omega) (by omega) (fun c_38 => ?_) (fun c_38 => ?_)
      · refine lv_iload_n hx hb d_JI_numberOfTrailingZeros_49 rfl (lv_at hl 1 rfl) ?_
        refine lv_bipush (v := iZ (16)) hx hb d_JI_numberOfTrailingZeros_50 (by decide) ?_
        refine zi_le (tgt := 62) hx hb d_JI_numberOfTrailingZeros_52 (by decide) (by omega) (by omega) (by omega) (by omega) (fun c_52 => ?_) (fun c_52 => ?_)
        · refine lv_iload_n hx hb d_JI_numberOfTrailingZeros_62 rfl (lv_at hl 1 rfl) ?_
          refine lv_iconst (v := iZ (4)) hx hb d_JI_numberOfTrailingZeros_63 rfl ?_
          refine zi_le (tgt := 74) hx hb d_JI_numberOfTrailingZeros_64 (by decide) (by omega) (by omega) (by omega) (by omega) (fun c_64 => ?_) (fun c_64 => ?_)
          · refine lv_iload_n hx hb d_JI_numberOfTrailingZeros_74 rfl (lv_at hl 0 rfl) ?_
            refine lv_iload_n hx hb d_JI_numberOfTrailingZeros_75 rfl (lv_at hl 1 rfl) ?_
            refine lv_iconst (v := iZ (1)) hx hb d_JI_numberOfTrailingZeros_76 rfl ?_
            refine lv_iushr (v := (iZ (y / 2))) hx hb d_JI_numberOfTrailingZeros_77 (iZ_ushr (by omega) (by omega) (by decide) (by decide)) ?_
            refine zi_add hx hb d_JI_numberOfTrailingZeros_78 ?_
            exact W.iret hx hb hr (fun t ht hW => ⟨_, rfl, ⟨_, rfl, ntz_pos (by omega) yc 0 1 (by decide) (by omega) (by omega) (by omega) (by omega) (by omega) (by omega)⟩, ht⟩) (fun q h => nomatch h) d_JI_numberOfTrailingZeros_79
          · refine lv_iinc (v := iZ (1 + 2)) (lv' := [(1, .int (iZ (1 + 2))), (0, .int (iZ y))]) hx hb d_JI_numberOfTrailingZeros_67 hl (k := 0) rfl (iZ_add _ _) (by decide) rfl (fun ls hl => ?_)
            refine lv_iload_n hx hb d_JI_numberOfTrailingZeros_70 rfl (lv_at hl 1 rfl) ?_
            refine lv_iconst (v := iZ (2)) hx hb d_JI_numberOfTrailingZeros_71 rfl ?_
            refine lv_iushr (v := (iZ (y / 4))) hx hb d_JI_numberOfTrailingZeros_72 (iZ_ushr (by omega) (by omega) (by decide) (by decide)) ?_
            refine zn_z (fun v0_73 e_v0_73 => ?_)
            refine lv_istore_n (lv' := [(0, .int (iZ v0_73)), (1, .int (iZ (1 + 2)))]) hx hb d_JI_numberOfTrailingZeros_73 rfl hl (by decide) rfl (fun ls hl => ?_)
            refine lv_iload_n hx hb d_JI_numberOfTrailingZeros_74 rfl (lv_at hl 1 rfl) ?_
            refine lv_iload_n hx hb d_JI_numberOfTrailingZeros_75 rfl (lv_at hl 0 rfl) ?_
            refine lv_iconst (v := iZ (1)) hx hb d_JI_numberOfTrailingZeros_76 rfl ?_
            refine lv_iushr (v := (iZ (v0_73 / 2))) hx hb d_JI_numberOfTrailingZeros_77 (iZ_ushr (by omega) (by omega) (by decide) (by decide)) ?_
            refine zi_add hx hb d_JI_numberOfTrailingZeros_78 ?_
            exact W.iret hx hb hr (fun t ht hW => ⟨_, rfl, ⟨_, rfl, ntz_pos (by omega) yc 2 4 (by decide) (by omega) (by omega) (by omega) (by omega) (by omega) (by omega)⟩, ht⟩) (fun q h => nomatch h) d_JI_numberOfTrailingZeros_79
        · refine lv_iinc (v := iZ (1 + 4)) (lv' := [(1, .int (iZ (1 + 4))), (0, .int (iZ y))]) hx hb d_JI_numberOfTrailingZeros_55 hl (k := 0) rfl (iZ_add _ _) (by decide) rfl (fun ls hl => ?_)
          refine lv_iload_n hx hb d_JI_numberOfTrailingZeros_58 rfl (lv_at hl 1 rfl) ?_
          refine lv_iconst (v := iZ (4)) hx hb d_JI_numberOfTrailingZeros_59 rfl ?_
          refine lv_iushr (v := (iZ (y / 16))) hx hb d_JI_numberOfTrailingZeros_60 (iZ_ushr (by omega) (by omega) (by decide) (by decide)) ?_
          refine zn_z (fun v0_61 e_v0_61 => ?_)
          refine lv_istore_n (lv' := [(0, .int (iZ v0_61)), (1, .int (iZ (1 + 4)))]) hx hb d_JI_numberOfTrailingZeros_61 rfl hl (by decide) rfl (fun ls hl => ?_)
          refine lv_iload_n hx hb d_JI_numberOfTrailingZeros_62 rfl (lv_at hl 0 rfl) ?_
          refine lv_iconst (v := iZ (4)) hx hb d_JI_numberOfTrailingZeros_63 rfl ?_
          refine zi_le (tgt := 74) hx hb d_JI_numberOfTrailingZeros_64 (by decide) (by omega) (by omega) (by omega) (by omega) (fun c_64 => ?_) (fun c_64 => ?_)
          · refine lv_iload_n hx hb d_JI_numberOfTrailingZeros_74 rfl (lv_at hl 1 rfl) ?_
            refine lv_iload_n hx hb d_JI_numberOfTrailingZeros_75 rfl (lv_at hl 0 rfl) ?_
            refine lv_iconst (v := iZ (1)) hx hb d_JI_numberOfTrailingZeros_76 rfl ?_
            refine lv_iushr (v := (iZ (v0_61 / 2))) hx hb d_JI_numberOfTrailingZeros_77 (iZ_ushr (by omega) (by omega) (by decide) (by decide)) ?_
            refine zi_add hx hb d_JI_numberOfTrailingZeros_78 ?_
            exact W.iret hx hb hr (fun t ht hW => ⟨_, rfl, ⟨_, rfl, ntz_pos (by omega) yc 4 16 (by decide) (by omega) (by omega) (by omega) (by omega) (by omega) (by omega)⟩, ht⟩) (fun q h => nomatch h) d_JI_numberOfTrailingZeros_79
          · refine lv_iinc (v := iZ ((1 + 4) + 2)) (lv' := [(1, .int (iZ ((1 + 4) + 2))), (0, .int (iZ v0_61))]) hx hb d_JI_numberOfTrailingZeros_67 hl (k := 1) rfl (iZ_add _ _) (by decide) rfl (fun ls hl => ?_)
            refine lv_iload_n hx hb d_JI_numberOfTrailingZeros_70 rfl (lv_at hl 1 rfl) ?_
            refine lv_iconst (v := iZ (2)) hx hb d_JI_numberOfTrailingZeros_71 rfl ?_
            refine lv_iushr (v := (iZ (v0_61 / 4))) hx hb d_JI_numberOfTrailingZeros_72 (iZ_ushr (by omega) (by omega) (by decide) (by decide)) ?_
            refine zn_z (fun v0_73 e_v0_73 => ?_)
            refine lv_istore_n (lv' := [(0, .int (iZ v0_73)), (1, .int (iZ ((1 + 4) + 2)))]) hx hb d_JI_numberOfTrailingZeros_73 rfl hl (by decide) rfl (fun ls hl => ?_)
            refine lv_iload_n hx hb d_JI_numberOfTrailingZeros_74 rfl (lv_at hl 1 rfl) ?_
            refine lv_iload_n hx hb d_JI_numberOfTrailingZeros_75 rfl (lv_at hl 0 rfl) ?_
            refine lv_iconst (v := iZ (1)) hx hb d_JI_numberOfTrailingZeros_76 rfl ?_
            refine lv_iushr (v := (iZ (v0_73 / 2))) hx hb d_JI_numberOfTrailingZeros_77 (iZ_ushr (by omega) (by omega) (by decide) (by decide)) ?_
            refine zi_add hx hb d_JI_numberOfTrailingZeros_78 ?_
            exact W.iret hx hb hr (fun t ht hW => ⟨_, rfl, ⟨_, rfl, ntz_pos (by omega) yc 6 64 (by decide) (by omega) (by omega) (by omega) (by omega) (by omega) (by omega)⟩, ht⟩) (fun q h => nomatch h) d_JI_numberOfTrailingZeros_79
      · refine lv_iinc (v := iZ (1 + 8)) (lv' := [(1, .int (iZ (1 + 8))), (0, .int (iZ y))]) hx hb d_JI_numberOfTrailingZeros_41 hl (k := 0) rfl (iZ_add _ _) (by decide) rfl (fun ls hl => ?_)
        refine lv_iload_n hx hb d_JI_numberOfTrailingZeros_44 rfl (lv_at hl 1 rfl) ?_
        refine lv_bipush (v := iZ (8)) hx hb d_JI_numberOfTrailingZeros_45 (by decide) ?_
        refine lv_iushr (v := (iZ (y / 256))) hx hb d_JI_numberOfTrailingZeros_47 (iZ_ushr (by omega) (by omega) (by decide) (by decide)) ?_
        refine zn_z (fun v0_48 e_v0_48 => ?_)
        refine lv_istore_n (lv' := [(0, .int (iZ v0_48)), (1, .int (iZ (1 + 8)))]) hx hb d_JI_numberOfTrailingZeros_48 rfl hl (by decide) rfl (fun ls hl => ?_)
        refine lv_iload_n hx hb d_JI_numberOfTrailingZeros_49 rfl (lv_at hl 0 rfl) ?_
        refine lv_bipush (v := iZ (16)) hx hb d_JI_numberOfTrailingZeros_50 (by decide) ?_
        refine zi_le (tgt := 62) hx hb d_JI_numberOfTrailingZeros_52 (by decide) (by omega) (by omega) (by omega) (by omega) (fun c_52 => ?_) (fun c_52 => ?_)
        · refine lv_iload_n hx hb d_JI_numberOfTrailingZeros_62 rfl (lv_at hl 0 rfl) ?_
          refine lv_iconst (v := iZ (4)) hx hb d_JI_numberOfTrailingZeros_63 rfl ?_
          refine zi_le (tgt := 74) hx hb d_JI_numberOfTrailingZeros_64 (by decide) (by omega) (by omega) (by omega) (by omega) (fun c_64 => ?_) (fun c_64 => ?_)
          · refine lv_iload_n hx hb d_JI_numberOfTrailingZeros_74 rfl (lv_at hl 1 rfl) ?_
            refine lv_iload_n hx hb d_JI_numberOfTrailingZeros_75 rfl (lv_at hl 0 rfl) ?_
            refine lv_iconst (v := iZ (1)) hx hb d_JI_numberOfTrailingZeros_76 rfl ?_
            refine lv_iushr (v := (iZ (v0_48 / 2))) hx hb d_JI_numberOfTrailingZeros_77 (iZ_ushr (by omega) (by omega) (by decide) (by decide)) ?_
            refine zi_add hx hb d_JI_numberOfTrailingZeros_78 ?_
            exact W.iret hx hb hr (fun t ht hW => ⟨_, rfl, ⟨_, rfl, ntz_pos (by omega) yc 8 256 (by decide) (by omega) (by omega) (by omega) (by omega) (by omega) (by omega)⟩, ht⟩) (fun q h => nomatch h) d_JI_numberOfTrailingZeros_79
          · refine lv_iinc (v := iZ ((1 + 8) + 2)) (lv' := [(1, .int (iZ ((1 + 8) + 2))), (0, .int (iZ v0_48))]) hx hb d_JI_numberOfTrailingZeros_67 hl (k := 1) rfl (iZ_add _ _) (by decide) rfl (fun ls hl => ?_)
            refine lv_iload_n hx hb d_JI_numberOfTrailingZeros_70 rfl (lv_at hl 1 rfl) ?_
            refine lv_iconst (v := iZ (2)) hx hb d_JI_numberOfTrailingZeros_71 rfl ?_
            refine lv_iushr (v := (iZ (v0_48 / 4))) hx hb d_JI_numberOfTrailingZeros_72 (iZ_ushr (by omega) (by omega) (by decide) (by decide)) ?_
            refine zn_z (fun v0_73 e_v0_73 => ?_)
            refine lv_istore_n (lv' := [(0, .int (iZ v0_73)), (1, .int (iZ ((1 + 8) + 2)))]) hx hb d_JI_numberOfTrailingZeros_73 rfl hl (by decide) rfl (fun ls hl => ?_)
            refine lv_iload_n hx hb d_JI_numberOfTrailingZeros_74 rfl (lv_at hl 1 rfl) ?_
            refine lv_iload_n hx hb d_JI_numberOfTrailingZeros_75 rfl (lv_at hl 0 rfl) ?_
            refine lv_iconst (v := iZ (1)) hx hb d_JI_numberOfTrailingZeros_76 rfl ?_
            refine lv_iushr (v := (iZ (v0_73 / 2))) hx hb d_JI_numberOfTrailingZeros_77 (iZ_ushr (by omega) (by omega) (by decide) (by decide)) ?_
            refine zi_add hx hb d_JI_numberOfTrailingZeros_78 ?_
            exact W.iret hx hb hr (fun t ht hW => ⟨_, rfl, ⟨_, rfl, ntz_pos (by omega) yc 10 1024 (by decide) (by omega) (by omega) (by omega) (by omega) (by omega) (by omega)⟩, ht⟩) (fun q h => nomatch h) d_JI_numberOfTrailingZeros_79
        · refine lv_iinc (v := iZ ((1 + 8) + 4)) (lv' := [(1, .int (iZ ((1 + 8) + 4))), (0, .int (iZ v0_48))]) hx hb d_JI_numberOfTrailingZeros_55 hl (k := 1) rfl (iZ_add _ _) (by decide) rfl (fun ls hl => ?_)
          refine lv_iload_n hx hb d_JI_numberOfTrailingZeros_58 rfl (lv_at hl 1 rfl) ?_
          refine lv_iconst (v := iZ (4)) hx hb d_JI_numberOfTrailingZeros_59 rfl ?_
          refine lv_iushr (v := (iZ (v0_48 / 16))) hx hb d_JI_numberOfTrailingZeros_60 (iZ_ushr (by omega) (by omega) (by decide) (by decide)) ?_
          refine zn_z (fun v0_61 e_v0_61 => ?_)
          refine lv_istore_n (lv' := [(0, .int (iZ v0_61)), (1, .int (iZ ((1 + 8) + 4)))]) hx hb d_JI_numberOfTrailingZeros_61 rfl hl (by decide) rfl (fun ls hl => ?_)
          refine lv_iload_n hx hb d_JI_numberOfTrailingZeros_62 rfl (lv_at hl 0 rfl) ?_
          refine lv_iconst (v := iZ (4)) hx hb d_JI_numberOfTrailingZeros_63 rfl ?_
          refine zi_le (tgt := 74) hx hb d_JI_numberOfTrailingZeros_64 (by decide) (by omega) (by omega) (by omega) (by omega) (fun c_64 => ?_) (fun c_64 => ?_)
          · refine lv_iload_n hx hb d_JI_numberOfTrailingZeros_74 rfl (lv_at hl 1 rfl) ?_
            refine lv_iload_n hx hb d_JI_numberOfTrailingZeros_75 rfl (lv_at hl 0 rfl) ?_
            refine lv_iconst (v := iZ (1)) hx hb d_JI_numberOfTrailingZeros_76 rfl ?_
            refine lv_iushr (v := (iZ (v0_61 / 2))) hx hb d_JI_numberOfTrailingZeros_77 (iZ_ushr (by omega) (by omega) (by decide) (by decide)) ?_
            refine zi_add hx hb d_JI_numberOfTrailingZeros_78 ?_
            exact W.iret hx hb hr (fun t ht hW => ⟨_, rfl, ⟨_, rfl, ntz_pos (by omega) yc 12 4096 (by decide) (by omega) (by omega) (by omega) (by omega) (by omega) (by omega)⟩, ht⟩) (fun q h => nomatch h) d_JI_numberOfTrailingZeros_79
          · refine lv_iinc (v := iZ (((1 + 8) + 4) + 2)) (lv' := [(1, .int (iZ (((1 + 8) + 4) + 2))), (0, .int (iZ v0_61))]) hx hb d_JI_numberOfTrailingZeros_67 hl (k := 1) rfl (iZ_add _ _) (by decide) rfl (fun ls hl => ?_)
            refine lv_iload_n hx hb d_JI_numberOfTrailingZeros_70 rfl (lv_at hl 1 rfl) ?_
            refine lv_iconst (v := iZ (2)) hx hb d_JI_numberOfTrailingZeros_71 rfl ?_
            refine lv_iushr (v := (iZ (v0_61 / 4))) hx hb d_JI_numberOfTrailingZeros_72 (iZ_ushr (by omega) (by omega) (by decide) (by decide)) ?_
            refine zn_z (fun v0_73 e_v0_73 => ?_)
            refine lv_istore_n (lv' := [(0, .int (iZ v0_73)), (1, .int (iZ (((1 + 8) + 4) + 2)))]) hx hb d_JI_numberOfTrailingZeros_73 rfl hl (by decide) rfl (fun ls hl => ?_)
            refine lv_iload_n hx hb d_JI_numberOfTrailingZeros_74 rfl (lv_at hl 1 rfl) ?_
            refine lv_iload_n hx hb d_JI_numberOfTrailingZeros_75 rfl (lv_at hl 0 rfl) ?_
            refine lv_iconst (v := iZ (1)) hx hb d_JI_numberOfTrailingZeros_76 rfl ?_
            refine lv_iushr (v := (iZ (v0_73 / 2))) hx hb d_JI_numberOfTrailingZeros_77 (iZ_ushr (by omega) (by omega) (by decide) (by decide)) ?_
            refine zi_add hx hb d_JI_numberOfTrailingZeros_78 ?_
            exact W.iret hx hb hr (fun t ht hW => ⟨_, rfl, ⟨_, rfl, ntz_pos (by omega) yc 14 16384 (by decide) (by omega) (by omega) (by omega) (by omega) (by omega) (by omega)⟩, ht⟩) (fun q h => nomatch h) d_JI_numberOfTrailingZeros_79
    · refine lv_iinc (v := iZ (1 + 16)) (lv' := [(1, .int (iZ (1 + 16))), (0, .int (iZ y))]) hx hb d_JI_numberOfTrailingZeros_26 hl (k := 0) rfl (iZ_add _ _) (by decide) rfl (fun ls hl => ?_)
      refine lv_iload_n hx hb d_JI_numberOfTrailingZeros_29 rfl (lv_at hl 1 rfl) ?_
      refine lv_bipush (v := iZ (16)) hx hb d_JI_numberOfTrailingZeros_30 (by decide) ?_
      refine lv_iushr (v := (iZ (y / 65536))) hx hb d_JI_numberOfTrailingZeros_32 (iZ_ushr (by omega) (by omega) (by decide) (by decide)) ?_
      refine zn_z (fun v0_33 e_v0_33 => ?_)
      refine lv_istore_n (lv' := [(0, .int (iZ v0_33)), (1, .int (iZ (1 + 16)))]) hx hb d_JI_numberOfTrailingZeros_33 rfl hl (by decide) rfl (fun ls hl => ?_)
      refine lv_iload_n hx hb d_JI_numberOfTrailingZeros_34 rfl (lv_at hl 0 rfl) ?_
      refine lv_sipush (v := iZ (256)) hx hb d_JI_numberOfTrailingZeros_35 (by decide) ?_
      refine zi_le (tgt := 49) hx hb d_JI_numberOfTrailingZeros_38 (by decide) (by omega) (by omega) (by omega) (by omega) (fun c_38 => ?_) (fun c_38 => ?_)
      · refine lv_iload_n hx hb d_JI_numberOfTrailingZeros_49 rfl (lv_at hl 0 rfl) ?_
        refine lv_bipush (v := iZ (16)) hx hb d_JI_numberOfTrailingZeros_50 (by decide) ?_
        refine zi_le (tgt := 62) hx hb d_JI_numberOfTrailingZeros_52 (by decide) (by omega) (by omega) (by omega) (by omega) (fun c_52 => ?_) (fun c_52 => ?_)
        · refine lv_iload_n hx hb d_JI_numberOfTrailingZeros_62 rfl (lv_at hl 0 rfl) ?_
          refine lv_iconst (v := iZ (4)) hx hb d_JI_numberOfTrailingZeros_63 rfl ?_
          refine zi_le (tgt := 74) hx hb d_JI_numberOfTrailingZeros_64 (by decide) (by omega) (by omega) (by omega) (by omega) (fun c_64 => ?_) (fun c_64 => ?_)
          · refine lv_iload_n hx hb d_JI_numberOfTrailingZeros_74 rfl (lv_at hl 1 rfl) ?_
            refine lv_iload_n hx hb d_JI_numberOfTrailingZeros_75 rfl (lv_at hl 0 rfl) ?_
            refine lv_iconst (v := iZ (1)) hx hb d_JI_numberOfTrailingZeros_76 rfl ?_
            refine lv_iushr (v := (iZ (v0_33 / 2))) hx hb d_JI_numberOfTrailingZeros_77 (iZ_ushr (by omega) (by omega) (by decide) (by decide)) ?_
            refine zi_add hx hb d_JI_numberOfTrailingZeros_78 ?_
            exact W.iret hx hb hr (fun t ht hW => ⟨_, rfl, ⟨_, rfl, ntz_pos (by omega) yc 16 65536 (by decide) (by omega) (by omega) (by omega) (by omega) (by omega) (by omega)⟩, ht⟩) (fun q h => nomatch h) d_JI_numberOfTrailingZeros_79
          · refine lv_iinc (v := iZ ((1 + 16) + 2)) (lv' := [(1, .int (iZ ((1 + 16) + 2))), (0, .int (iZ v0_33))]) hx hb d_JI_numberOfTrailingZeros_67 hl (k := 1) rfl (iZ_add _ _) (by decide) rfl (fun ls hl => ?_)
            refine lv_iload_n hx hb d_JI_numberOfTrailingZeros_70 rfl (lv_at hl 1 rfl) ?_
            refine lv_iconst (v := iZ (2)) hx hb d_JI_numberOfTrailingZeros_71 rfl ?_
            refine lv_iushr (v := (iZ (v0_33 / 4))) hx hb d_JI_numberOfTrailingZeros_72 (iZ_ushr (by omega) (by omega) (by decide) (by decide)) ?_
            refine zn_z (fun v0_73 e_v0_73 => ?_)
            refine lv_istore_n (lv' := [(0, .int (iZ v0_73)), (1, .int (iZ ((1 + 16) + 2)))]) hx hb d_JI_numberOfTrailingZeros_73 rfl hl (by decide) rfl (fun ls hl => ?_)
            refine lv_iload_n hx hb d_JI_numberOfTrailingZeros_74 rfl (lv_at hl 1 rfl) ?_
            refine lv_iload_n hx hb d_JI_numberOfTrailingZeros_75 rfl (lv_at hl 0 rfl) ?_
            refine lv_iconst (v := iZ (1)) hx hb d_JI_numberOfTrailingZeros_76 rfl ?_
            refine lv_iushr (v := (iZ (v0_73 / 2))) hx hb d_JI_numberOfTrailingZeros_77 (iZ_ushr (by omega) (by omega) (by decide) (by decide)) ?_
            refine zi_add hx hb d_JI_numberOfTrailingZeros_78 ?_
            exact W.iret hx hb hr (fun t ht hW => ⟨_, rfl, ⟨_, rfl, ntz_pos (by omega) yc 18 262144 (by decide) (by omega) (by omega) (by omega) (by omega) (by omega) (by omega)⟩, ht⟩) (fun q h => nomatch h) d_JI_numberOfTrailingZeros_79
        · refine lv_iinc (v := iZ ((1 + 16) + 4)) (lv' := [(1, .int (iZ ((1 + 16) + 4))), (0, .int (iZ v0_33))]) hx hb d_JI_numberOfTrailingZeros_55 hl (k := 1) rfl (iZ_add _ _) (by decide) rfl (fun ls hl => ?_)
          refine lv_iload_n hx hb d_JI_numberOfTrailingZeros_58 rfl (lv_at hl 1 rfl) ?_
          refine lv_iconst (v := iZ (4)) hx hb d_JI_numberOfTrailingZeros_59 rfl ?_
          refine lv_iushr (v := (iZ (v0_33 / 16))) hx hb d_JI_numberOfTrailingZeros_60 (iZ_ushr (by omega) (by omega) (by decide) (by decide)) ?_
          refine zn_z (fun v0_61 e_v0_61 => ?_)
          refine lv_istore_n (lv' := [(0, .int (iZ v0_61)), (1, .int (iZ ((1 + 16) + 4)))]) hx hb d_JI_numberOfTrailingZeros_61 rfl hl (by decide) rfl (fun ls hl => ?_)
          refine lv_iload_n hx hb d_JI_numberOfTrailingZeros_62 rfl (lv_at hl 0 rfl) ?_
          refine lv_iconst (v := iZ (4)) hx hb d_JI_numberOfTrailingZeros_63 rfl ?_
          refine zi_le (tgt := 74) hx hb d_JI_numberOfTrailingZeros_64 (by decide) (by omega) (by omega) (by omega) (by omega) (fun c_64 => ?_) (fun c_64 => ?_)
          · refine lv_iload_n hx hb d_JI_numberOfTrailingZeros_74 rfl (lv_at hl 1 rfl) ?_
            refine lv_iload_n hx hb d_JI_numberOfTrailingZeros_75 rfl (lv_at hl 0 rfl) ?_
            refine lv_iconst (v := iZ (1)) hx hb d_JI_numberOfTrailingZeros_76 rfl ?_
            refine lv_iushr (v := (iZ (v0_61 / 2))) hx hb d_JI_numberOfTrailingZeros_77 (iZ_ushr (by omega) (by omega) (by decide) (by decide)) ?_
            refine zi_add hx hb d_JI_numberOfTrailingZeros_78 ?_
            exact W.iret hx hb hr (fun t ht hW => ⟨_, rfl, ⟨_, rfl, ntz_pos (by omega) yc 20 1048576 (by decide) (by omega) (by omega) (by omega) (by omega) (by omega) (by omega)⟩, ht⟩) (fun q h => nomatch h) d_JI_numberOfTrailingZeros_79
          · refine lv_iinc (v := iZ (((1 + 16) + 4) + 2)) (lv' := [(1, .int (iZ (((1 + 16) + 4) + 2))), (0, .int (iZ v0_61))]) hx hb d_JI_numberOfTrailingZeros_67 hl (k := 1) rfl (iZ_add _ _) (by decide) rfl (fun ls hl => ?_)
            refine lv_iload_n hx hb d_JI_numberOfTrailingZeros_70 rfl (lv_at hl 1 rfl) ?_
            refine lv_iconst (v := iZ (2)) hx hb d_JI_numberOfTrailingZeros_71 rfl ?_
            refine lv_iushr (v := (iZ (v0_61 / 4))) hx hb d_JI_numberOfTrailingZeros_72 (iZ_ushr (by omega) (by omega) (by decide) (by decide)) ?_
            refine zn_z (fun v0_73 e_v0_73 => ?_)
            refine lv_istore_n (lv' := [(0, .int (iZ v0_73)), (1, .int (iZ (((1 + 16) + 4) + 2)))]) hx hb d_JI_numberOfTrailingZeros_73 rfl hl (by decide) rfl (fun ls hl => ?_)
            refine lv_iload_n hx hb d_JI_numberOfTrailingZeros_74 rfl (lv_at hl 1 rfl) ?_
            refine lv_iload_n hx hb d_JI_numberOfTrailingZeros_75 rfl (lv_at hl 0 rfl) ?_
            refine lv_iconst (v := iZ (1)) hx hb d_JI_numberOfTrailingZeros_76 rfl ?_
            refine lv_iushr (v := (iZ (v0_73 / 2))) hx hb d_JI_numberOfTrailingZeros_77 (iZ_ushr (by omega) (by omega) (by decide) (by decide)) ?_
            refine zi_add hx hb d_JI_numberOfTrailingZeros_78 ?_
            exact W.iret hx hb hr (fun t ht hW => ⟨_, rfl, ⟨_, rfl, ntz_pos (by omega) yc 22 4194304 (by decide) (by omega) (by omega) (by omega) (by omega) (by omega) (by omega)⟩, ht⟩) (fun q h => nomatch h) d_JI_numberOfTrailingZeros_79
      · refine lv_iinc (v := iZ ((1 + 16) + 8)) (lv' := [(1, .int (iZ ((1 + 16) + 8))), (0, .int (iZ v0_33))]) hx hb d_JI_numberOfTrailingZeros_41 hl (k := 1) rfl (iZ_add _ _) (by decide) rfl (fun ls hl => ?_)
        refine lv_iload_n hx hb d_JI_numberOfTrailingZeros_44 rfl (lv_at hl 1 rfl) ?_
        refine lv_bipush (v := iZ (8)) hx hb d_JI_numberOfTrailingZeros_45 (by decide) ?_
        refine lv_iushr (v := (iZ (v0_33 / 256))) hx hb d_JI_numberOfTrailingZeros_47 (iZ_ushr (by omega) (by omega) (by decide) (by decide)) ?_
        refine zn_z (fun v0_48 e_v0_48 => ?_)
        refine lv_istore_n (lv' := [(0, .int (iZ v0_48)), (1, .int (iZ ((1 + 16) + 8)))]) hx hb d_JI_numberOfTrailingZeros_48 rfl hl (by decide) rfl (fun ls hl => ?_)
        refine lv_iload_n hx hb d_JI_numberOfTrailingZeros_49 rfl (lv_at hl 0 rfl) ?_
        refine lv_bipush (v := iZ (16)) hx hb d_JI_numberOfTrailingZeros_50 (by decide) ?_
        refine zi_le (tgt := 62) hx hb d_JI_numberOfTrailingZeros_52 (by decide) (by omega) (by omega) (by omega) (by omega) (fun c_52 => ?_) (fun c_52 => ?_)
        · refine lv_iload_n hx hb d_JI_numberOfTrailingZeros_62 rfl (lv_at hl 0 rfl) ?_
          refine lv_iconst (v := iZ (4)) hx hb d_JI_numberOfTrailingZeros_63 rfl ?_
          refine zi_le (tgt := 74) hx hb d_JI_numberOfTrailingZeros_64 (by decide) (by omega) (by omega) (by omega) (by omega) (fun c_64 => ?_) (fun c_64 => ?_)
          · refine lv_iload_n hx hb d_JI_numberOfTrailingZeros_74 rfl (lv_at hl 1 rfl) ?_
            refine lv_iload_n hx hb d_JI_numberOfTrailingZeros_75 rfl (lv_at hl 0 rfl) ?_
            refine lv_iconst (v := iZ (1)) hx hb d_JI_numberOfTrailingZeros_76 rfl ?_
            refine lv_iushr (v := (iZ (v0_48 / 2))) hx hb d_JI_numberOfTrailingZeros_77 (iZ_ushr (by omega) (by omega) (by decide) (by decide)) ?_
            refine zi_add hx hb d_JI_numberOfTrailingZeros_78 ?_
            exact W.iret hx hb hr (fun t ht hW => ⟨_, rfl, ⟨_, rfl, ntz_pos (by omega) yc 24 16777216 (by decide) (by omega) (by omega) (by omega) (by omega) (by omega) (by omega)⟩, ht⟩) (fun q h => nomatch h) d_JI_numberOfTrailingZeros_79
          · refine lv_iinc (v := iZ (((1 + 16) + 8) + 2)) (lv' := [(1, .int (iZ (((1 + 16) + 8) + 2))), (0, .int (iZ v0_48))]) hx hb d_JI_numberOfTrailingZeros_67 hl (k := 1) rfl (iZ_add _ _) (by decide) rfl (fun ls hl => ?_)
            refine lv_iload_n hx hb d_JI_numberOfTrailingZeros_70 rfl (lv_at hl 1 rfl) ?_
            refine lv_iconst (v := iZ (2)) hx hb d_JI_numberOfTrailingZeros_71 rfl ?_
            refine lv_iushr (v := (iZ (v0_48 / 4))) hx hb d_JI_numberOfTrailingZeros_72 (iZ_ushr (by omega) (by omega) (by decide) (by decide)) ?_
            refine zn_z (fun v0_73 e_v0_73 => ?_)
            refine lv_istore_n (lv' := [(0, .int (iZ v0_73)), (1, .int (iZ (((1 + 16) + 8) + 2)))]) hx hb d_JI_numberOfTrailingZeros_73 rfl hl (by decide) rfl (fun ls hl => ?_)
            refine lv_iload_n hx hb d_JI_numberOfTrailingZeros_74 rfl (lv_at hl 1 rfl) ?_
            refine lv_iload_n hx hb d_JI_numberOfTrailingZeros_75 rfl (lv_at hl 0 rfl) ?_
            refine lv_iconst (v := iZ (1)) hx hb d_JI_numberOfTrailingZeros_76 rfl ?_
            refine lv_iushr (v := (iZ (v0_73 / 2))) hx hb d_JI_numberOfTrailingZeros_77 (iZ_ushr (by omega) (by omega) (by decide) (by decide)) ?_
            refine zi_add hx hb d_JI_numberOfTrailingZeros_78 ?_
            exact W.iret hx hb hr (fun t ht hW => ⟨_, rfl, ⟨_, rfl, ntz_pos (by omega) yc 26 67108864 (by decide) (by omega) (by omega) (by omega) (by omega) (by omega) (by omega)⟩, ht⟩) (fun q h => nomatch h) d_JI_numberOfTrailingZeros_79
        · refine lv_iinc (v := iZ (((1 + 16) + 8) + 4)) (lv' := [(1, .int (iZ (((1 + 16) + 8) + 4))), (0, .int (iZ v0_48))]) hx hb d_JI_numberOfTrailingZeros_55 hl (k := 1) rfl (iZ_add _ _) (by decide) rfl (fun ls hl => ?_)
          refine lv_iload_n hx hb d_JI_numberOfTrailingZeros_58 rfl (lv_at hl 1 rfl) ?_
          refine lv_iconst (v := iZ (4)) hx hb d_JI_numberOfTrailingZeros_59 rfl ?_
          refine lv_iushr (v := (iZ (v0_48 / 16))) hx hb d_JI_numberOfTrailingZeros_60 (iZ_ushr (by omega) (by omega) (by decide) (by decide)) ?_
          refine zn_z (fun v0_61 e_v0_61 => ?_)
          refine lv_istore_n (lv' := [(0, .int (iZ v0_61)), (1, .int (iZ (((1 + 16) + 8) + 4)))]) hx hb d_JI_numberOfTrailingZeros_61 rfl hl (by decide) rfl (fun ls hl => ?_)
          refine lv_iload_n hx hb d_JI_numberOfTrailingZeros_62 rfl (lv_at hl 0 rfl) ?_
          refine lv_iconst (v := iZ (4)) hx hb d_JI_numberOfTrailingZeros_63 rfl ?_
          refine zi_le (tgt := 74) hx hb d_JI_numberOfTrailingZeros_64 (by decide) (by omega) (by omega) (by omega) (by omega) (fun c_64 => ?_) (fun c_64 => ?_)
          · refine lv_iload_n hx hb d_JI_numberOfTrailingZeros_74 rfl (lv_at hl 1 rfl) ?_
            refine lv_iload_n hx hb d_JI_numberOfTrailingZeros_75 rfl (lv_at hl 0 rfl) ?_
            refine lv_iconst (v := iZ (1)) hx hb d_JI_numberOfTrailingZeros_76 rfl ?_
            refine lv_iushr (v := (iZ (v0_61 / 2))) hx hb d_JI_numberOfTrailingZeros_77 (iZ_ushr (by omega) (by omega) (by decide) (by decide)) ?_
            refine zi_add hx hb d_JI_numberOfTrailingZeros_78 ?_
            exact W.iret hx hb hr (fun t ht hW => ⟨_, rfl, ⟨_, rfl, ntz_pos (by omega) yc 28 268435456 (by decide) (by omega) (by omega) (by omega) (by omega) (by omega) (by omega)⟩, ht⟩) (fun q h => nomatch h) d_JI_numberOfTrailingZeros_79
          · refine lv_iinc (v := iZ ((((1 + 16) + 8) + 4) + 2)) (lv' := [(1, .int (iZ ((((1 + 16) + 8) + 4) + 2))), (0, .int (iZ v0_61))]) hx hb d_JI_numberOfTrailingZeros_67 hl (k := 1) rfl (iZ_add _ _) (by decide) rfl (fun ls hl => ?_)
            refine lv_iload_n hx hb d_JI_numberOfTrailingZeros_70 rfl (lv_at hl 1 rfl) ?_
            refine lv_iconst (v := iZ (2)) hx hb d_JI_numberOfTrailingZeros_71 rfl ?_
            refine lv_iushr (v := (iZ (v0_61 / 4))) hx hb d_JI_numberOfTrailingZeros_72 (iZ_ushr (by omega) (by omega) (by decide) (by decide)) ?_
            refine zn_z (fun v0_73 e_v0_73 => ?_)
            refine lv_istore_n (lv' := [(0, .int (iZ v0_73)), (1, .int (iZ ((((1 + 16) + 8) + 4) + 2)))]) hx hb d_JI_numberOfTrailingZeros_73 rfl hl (by decide) rfl (fun ls hl => ?_)
            refine lv_iload_n hx hb d_JI_numberOfTrailingZeros_74 rfl (lv_at hl 1 rfl) ?_
            refine lv_iload_n hx hb d_JI_numberOfTrailingZeros_75 rfl (lv_at hl 0 rfl) ?_
            refine lv_iconst (v := iZ (1)) hx hb d_JI_numberOfTrailingZeros_76 rfl ?_
            refine lv_iushr (v := (iZ (v0_73 / 2))) hx hb d_JI_numberOfTrailingZeros_77 (iZ_ushr (by omega) (by omega) (by decide) (by decide)) ?_
            refine zi_add hx hb d_JI_numberOfTrailingZeros_78 ?_
            exact W.iret hx hb hr (fun t ht hW => ⟨_, rfl, ⟨_, rfl, ntz_pos (by omega) yc 30 1073741824 (by decide) (by omega) (by omega) (by omega) (by omega) (by omega) (by omega)⟩, ht⟩) (fun q h => nomatch h) d_JI_numberOfTrailingZeros_79
  · refine lv_iload_n hx hb d_JI_numberOfTrailingZeros_12 rfl (lv_at hl 0 rfl) ?_
    refine lv_bipush (v := iZ (32)) hx hb d_JI_numberOfTrailingZeros_13 (by decide) ?_
    refine lv_iand hx hb d_JI_numberOfTrailingZeros_15 ?_
    exact W.iret hx hb hr (fun t ht hW => ⟨_, rfl, (ntz_neg (by omega) yc).imp (fun z h => ⟨h.1, h.2.1, h.2.2.1, by omega⟩), ht⟩) (fun q h => nomatch h) d_JI_numberOfTrailingZeros_16
theorem d_JL_numberOfLeadingZeros_0 : decode c_yJL_numberOfLeadingZeros 0 = .ok (.lload_n 0, 1) := by decide +kernel
theorem d_JL_numberOfLeadingZeros_1 : decode c_yJL_numberOfLeadingZeros 1 = .ok (.bipush 32, 2) := by decide +kernel
theorem d_JL_numberOfLeadingZeros_3 : decode c_yJL_numberOfLeadingZeros 3 = .ok (.lushr, 1) := by decide +kernel
theorem d_JL_numberOfLeadingZeros_4 : decode c_yJL_numberOfLeadingZeros 4 = .ok (.l2i, 1) := by decide +kernel
theorem d_JL_numberOfLeadingZeros_5 : decode c_yJL_numberOfLeadingZeros 5 = .ok (.istore_n 2, 1) := by decide +kernel
theorem d_JL_numberOfLeadingZeros_6 : decode c_yJL_numberOfLeadingZeros 6 = .ok (.iload_n 2, 1) := by decide +kernel
theorem d_JL_numberOfLeadingZeros_7 : decode c_yJL_numberOfLeadingZeros 7 = .ok (.ifCond .ne 14, 3) := by decide +kernel
theorem d_JL_numberOfLeadingZeros_10 : decode c_yJL_numberOfLeadingZeros 10 = .ok (.bipush 32, 2) := by decide +kernel
theorem d_JL_numberOfLeadingZeros_12 : decode c_yJL_numberOfLeadingZeros 12 = .ok (.lload_n 0, 1) := by decide +kernel
theorem d_JL_numberOfLeadingZeros_13 : decode c_yJL_numberOfLeadingZeros 13 = .ok (.l2i, 1) := by decide +kernel
theorem d_JL_numberOfLeadingZeros_14 : decode c_yJL_numberOfLeadingZeros 14 = .ok (.invokestatic 308, 3) := by decide +kernel
theorem d_JL_numberOfLeadingZeros_17 : decode c_yJL_numberOfLeadingZeros 17 = .ok (.iadd, 1) := by decide +kernel
theorem d_JL_numberOfLeadingZeros_18 : decode c_yJL_numberOfLeadingZeros 18 = .ok (.goto 7, 3) := by decide +kernel
theorem d_JL_numberOfLeadingZeros_21 : decode c_yJL_numberOfLeadingZeros 21 = .ok (.iload_n 2, 1) := by decide +kernel
theorem d_JL_numberOfLeadingZeros_22 : decode c_yJL_numberOfLeadingZeros 22 = .ok (.invokestatic 308, 3) := by decide +kernel
theorem d_JL_numberOfLeadingZeros_25 : decode c_yJL_numberOfLeadingZeros 25 = .ok (.ireturn, 1) := by decide +kernel
set_option maxHeartbeats 4000000 in
set_option maxRecDepth 100000 in
theorem c_Long_nlz (l : Launch) (dC : Nat → ClassId) (dI : Nat → Nat → Nat) (v : Int64) (v0 : v ≠ lZ 0) : Met l y_JL_numberOfLeadingZeros w_JL_numberOfLeadingZeros ({ frames := 1, cells := 0, slots := 0, locals := 21 }) (va_Pc [.long v] (zPr (dC, dI) vwCl [] [])) (vp_Si (fun r => ∃ z : Int, r = iZ z ∧ nlzL v z)) 0 0 (fun _ => False) := by
  refine va_MetF (cc := c_yJL_numberOfLeadingZeros) (maxL := 3) (ret := (some .int)) (by decide +kernel) rfl ?_
  intro p e s m args below meth c s₁ B hml hv
  obtain ⟨rfl, hP, hK⟩ := hv
  have hx := B.exec
  have hb := B.bytes
  have hr := B.returns
  have hts0 := atoms_spec (ws := w_JL_numberOfLeadingZeros) B.pre
  have hts : ∀ w ∈ gT, w.before _ s = true := fun w h => hts0 w (List.mem_cons_of_mem _ h)
  have hown : s.vm.findClass R_JL = some m.cls := findClass_of_methodNamed B.named
  have hlocks := B.notSynchronized
  have hl := lv_entry ([.long v]) (n := 3) (Nat.le_of_ble_eq_true rfl)
  rw [lg_entry_eq]
  generalize (lg_sl ([.long v]) ++ List.replicate (3 - (lg_sl ([.long v])).length) Slot.unset).toArray = ls at hl ⊢
  have hl : lv_has ls 3 [(0, .long v)] := hl
  refine lv_lload_n hx hb d_JL_numberOfLeadingZeros_0 rfl (lv_at hl 0 rfl) ?_
  refine lv_bipush (v := iZ (32)) hx hb d_JL_numberOfLeadingZeros_1 (by decide) ?_
  refine lv_lushr hx hb d_JL_numberOfLeadingZeros_3 rfl ?_
  refine lv_l2i hx hb d_JL_numberOfLeadingZeros_4 rfl ?_
  refine lv_topi (fun v2_5 e_v2_5 => ?_)
  refine lv_istore_n (lv' := [(2, .int v2_5), (0, .long v)]) hx hb d_JL_numberOfLeadingZeros_5 rfl hl (by decide) rfl (fun ls hl => ?_)
  refine lv_iload_n hx hb d_JL_numberOfLeadingZeros_6 rfl (lv_at hl 0 rfl) ?_
  refine lv_if_ne (tgt := 21) hx hb d_JL_numberOfLeadingZeros_7 (by decide) (fun c_7 => ?_) (fun c_7 => ?_)
  · refine lv_iload_n hx hb d_JL_numberOfLeadingZeros_21 rfl (lv_at hl 0 rfl) ?_
    refine zn_eq (v2 := .int (iZ ((v2_5).toInt))) (congrArg Value.int (iZ_of _)) ?_
    refine vp_callSi (va_runS (As := [.int (iZ ((v2_5).toInt))]) (rest := []) ⟨hx, hb, hml, hown, hts⟩ (c_Integer_nlz l dC dI ((v2_5).toInt) (iZ_lo _) (iZ_hi _)) (va_cwS 1 hts (gS t_596 t_597 t_18 t_598) rfl rfl rfl (by decide +kernel) ⟨Nat.le_of_ble_eq_true rfl, Nat.le_of_ble_eq_true rfl⟩) ⟨zPr_blind, zPr_pre hP hK [] [] rfl rfl⟩ rfl rfl hl.1 rfl (lv_room (Nat.le_of_ble_eq_true rfl)) d_JL_numberOfLeadingZeros_22 ⟨Nat.le_of_ble_eq_true rfl, Nat.le_of_ble_eq_true rfl⟩).run (fun r_22 q_22 => ?_)
    obtain ⟨k_22, rfl, q_22⟩ := q_22
    exact W.iret hx hb hr (fun t ht hW => ⟨_, rfl, ⟨_, rfl, nlz_hi e_v2_5 c_7 q_22.1⟩, ht⟩) (fun q h => nomatch h) d_JL_numberOfLeadingZeros_25
  · refine lv_bipush (v := iZ (32)) hx hb d_JL_numberOfLeadingZeros_10 (by decide) ?_
    refine lv_lload_n hx hb d_JL_numberOfLeadingZeros_12 rfl (lv_at hl 1 rfl) ?_
    refine lv_l2i hx hb d_JL_numberOfLeadingZeros_13 rfl ?_
    refine zn_eq (v2 := .int (iZ (((v).toInt32).toInt))) (congrArg Value.int (iZ_of _)) ?_
    refine vp_callSi (va_runS (As := [.int (iZ (((v).toInt32).toInt))]) (rest := [.int (iZ 32)]) ⟨hx, hb, hml, hown, hts⟩ (c_Integer_nlz l dC dI (((v).toInt32).toInt) (iZ_lo _) (iZ_hi _)) (va_cwS 1 hts (gS t_596 t_597 t_18 t_598) rfl rfl rfl (by decide +kernel) ⟨Nat.le_of_ble_eq_true rfl, Nat.le_of_ble_eq_true rfl⟩) ⟨zPr_blind, zPr_pre hP hK [] [] rfl rfl⟩ rfl rfl hl.1 rfl (lv_room (Nat.le_of_ble_eq_true rfl)) d_JL_numberOfLeadingZeros_14 ⟨Nat.le_of_ble_eq_true rfl, Nat.le_of_ble_eq_true rfl⟩).run (fun r_14 q_14 => ?_)
    obtain ⟨k_14, rfl, q_14⟩ := q_14
    refine zi_add hx hb d_JL_numberOfLeadingZeros_17 ?_
    refine lv_goto (tgt := 25) hx hb d_JL_numberOfLeadingZeros_18 (by decide) ?_
    exact W.iret hx hb hr (fun t ht hW => ⟨_, rfl, ⟨_, rfl, nlz_lo v0 e_v2_5 c_7 q_14.1⟩, ht⟩) (fun q h => nomatch h) d_JL_numberOfLeadingZeros_25
theorem d_JL_numberOfTrailingZeros_0 : decode c_yJL_numberOfTrailingZeros 0 = .ok (.lload_n 0, 1) := by decide +kernel
theorem d_JL_numberOfTrailingZeros_1 : decode c_yJL_numberOfTrailingZeros 1 = .ok (.l2i, 1) := by decide +kernel
theorem d_JL_numberOfTrailingZeros_2 : decode c_yJL_numberOfTrailingZeros 2 = .ok (.istore_n 2, 1) := by decide +kernel
theorem d_JL_numberOfTrailingZeros_3 : decode c_yJL_numberOfTrailingZeros 3 = .ok (.iload_n 2, 1) := by decide +kernel
theorem d_JL_numberOfTrailingZeros_4 : decode c_yJL_numberOfTrailingZeros 4 = .ok (.ifCond .ne 17, 3) := by decide +kernel
theorem d_JL_numberOfTrailingZeros_7 : decode c_yJL_numberOfTrailingZeros 7 = .ok (.bipush 32, 2) := by decide +kernel
theorem d_JL_numberOfTrailingZeros_9 : decode c_yJL_numberOfTrailingZeros 9 = .ok (.lload_n 0, 1) := by decide +kernel
theorem d_JL_numberOfTrailingZeros_10 : decode c_yJL_numberOfTrailingZeros 10 = .ok (.bipush 32, 2) := by decide +kernel
theorem d_JL_numberOfTrailingZeros_12 : decode c_yJL_numberOfTrailingZeros 12 = .ok (.lushr, 1) := by decide +kernel
theorem d_JL_numberOfTrailingZeros_13 : decode c_yJL_numberOfTrailingZeros 13 = .ok (.l2i, 1) := by decide +kernel
theorem d_JL_numberOfTrailingZeros_14 : decode c_yJL_numberOfTrailingZeros 14 = .ok (.invokestatic 311, 3) := by decide +kernel
theorem d_JL_numberOfTrailingZeros_17 : decode c_yJL_numberOfTrailingZeros 17 = .ok (.iadd, 1) := by decide +kernel
theorem d_JL_numberOfTrailingZeros_18 : decode c_yJL_numberOfTrailingZeros 18 = .ok (.goto 7, 3) := by decide +kernel
theorem d_JL_numberOfTrailingZeros_21 : decode c_yJL_numberOfTrailingZeros 21 = .ok (.iload_n 2, 1) := by decide +kernel
theorem d_JL_numberOfTrailingZeros_22 : decode c_yJL_numberOfTrailingZeros 22 = .ok (.invokestatic 311, 3) := by decide +kernel
theorem d_JL_numberOfTrailingZeros_25 : decode c_yJL_numberOfTrailingZeros 25 = .ok (.ireturn, 1) := by decide +kernel
set_option maxHeartbeats 4000000 in
set_option maxRecDepth 100000 in
theorem c_Long_ntz (l : Launch) (dC : Nat → ClassId) (dI : Nat → Nat → Nat) (v : Int64) (v0 : v ≠ lZ 0) : Met l y_JL_numberOfTrailingZeros w_JL_numberOfTrailingZeros ({ frames := 1, cells := 0, slots := 0, locals := 21 }) (va_Pc [.long v] (zPr (dC, dI) vwCl [] [])) (vp_Si (fun r => ∃ z : Int, r = iZ z ∧ ntzL v z)) 0 0 (fun _ => False) := by
  refine va_MetF (cc := c_yJL_numberOfTrailingZeros) (maxL := 3) (ret := (some .int)) (by decide +kernel) rfl ?_
  intro p e s m args below meth c s₁ B hml hv
  obtain ⟨rfl, hP, hK⟩ := hv
  have hx := B.exec
  have hb := B.bytes
  have hr := B.returns
  have hts0 := atoms_spec (ws := w_JL_numberOfTrailingZeros) B.pre
  have hts : ∀ w ∈ gT, w.before _ s = true := fun w h => hts0 w (List.mem_cons_of_mem _ h)
  have hown : s.vm.findClass R_JL = some m.cls := findClass_of_methodNamed B.named
  have hlocks := B.notSynchronized
  have hl := lv_entry ([.long v]) (n := 3) (Nat.le_of_ble_eq_true rfl)
  rw [lg_entry_eq]
  generalize (lg_sl ([.long v]) ++ List.replicate (3 - (lg_sl ([.long v])).length) Slot.unset).toArray = ls at hl ⊢
  have hl : lv_has ls 3 [(0, .long v)] := hl
  refine lv_lload_n hx hb d_JL_numberOfTrailingZeros_0 rfl (lv_at hl 0 rfl) ?_
  refine lv_l2i hx hb d_JL_numberOfTrailingZeros_1 rfl ?_
  refine lv_topi (fun v2_2 e_v2_2 => ?_)
  refine lv_istore_n (lv' := [(2, .int v2_2), (0, .long v)]) hx hb d_JL_numberOfTrailingZeros_2 rfl hl (by decide) rfl (fun ls hl => ?_)
  refine lv_iload_n hx hb d_JL_numberOfTrailingZeros_3 rfl (lv_at hl 0 rfl) ?_
  refine lv_if_ne (tgt := 21) hx hb d_JL_numberOfTrailingZeros_4 (by decide) (fun c_4 => ?_) (fun c_4 => ?_)
  · refine lv_iload_n hx hb d_JL_numberOfTrailingZeros_21 rfl (lv_at hl 0 rfl) ?_
    refine vp_callSi (va_runS (As := [.int v2_2]) (rest := []) ⟨hx, hb, hml, hown, hts⟩ (c_Integer_ntz l dC dI v2_2 ) (va_cwS 1 hts (gS t_615 t_616 t_18 t_617) rfl rfl rfl (by decide +kernel) ⟨Nat.le_of_ble_eq_true rfl, Nat.le_of_ble_eq_true rfl⟩) ⟨zPr_blind, zPr_pre hP hK [] [] rfl rfl⟩ rfl rfl hl.1 rfl (lv_room (Nat.le_of_ble_eq_true rfl)) d_JL_numberOfTrailingZeros_22 ⟨Nat.le_of_ble_eq_true rfl, Nat.le_of_ble_eq_true rfl⟩).run (fun r_22 q_22 => ?_)
    obtain ⟨k_22, rfl, q_22⟩ := q_22
    exact W.iret hx hb hr (fun t ht hW => ⟨_, rfl, ⟨_, rfl, ntz_lo e_v2_2 c_4 q_22.1⟩, ht⟩) (fun q h => nomatch h) d_JL_numberOfTrailingZeros_25
  · refine lv_bipush (v := iZ (32)) hx hb d_JL_numberOfTrailingZeros_7 (by decide) ?_
    refine lv_lload_n hx hb d_JL_numberOfTrailingZeros_9 rfl (lv_at hl 1 rfl) ?_
    refine lv_bipush (v := iZ (32)) hx hb d_JL_numberOfTrailingZeros_10 (by decide) ?_
    refine lv_lushr hx hb d_JL_numberOfTrailingZeros_12 rfl ?_
    refine lv_l2i hx hb d_JL_numberOfTrailingZeros_13 rfl ?_
    refine vp_callSi (va_runS (As := [.int ((((v).toUInt64 >>> (((iZ 32)).toInt64.toUInt64 &&& Int64.toUInt64 63)).toInt64).toInt32)]) (rest := [.int (iZ 32)]) ⟨hx, hb, hml, hown, hts⟩ (c_Integer_ntz l dC dI ((((v).toUInt64 >>> (((iZ 32)).toInt64.toUInt64 &&& Int64.toUInt64 63)).toInt64).toInt32) ) (va_cwS 1 hts (gS t_615 t_616 t_18 t_617) rfl rfl rfl (by decide +kernel) ⟨Nat.le_of_ble_eq_true rfl, Nat.le_of_ble_eq_true rfl⟩) ⟨zPr_blind, zPr_pre hP hK [] [] rfl rfl⟩ rfl rfl hl.1 rfl (lv_room (Nat.le_of_ble_eq_true rfl)) d_JL_numberOfTrailingZeros_14 ⟨Nat.le_of_ble_eq_true rfl, Nat.le_of_ble_eq_true rfl⟩).run (fun r_14 q_14 => ?_)
    obtain ⟨k_14, rfl, q_14⟩ := q_14
    refine zi_add hx hb d_JL_numberOfTrailingZeros_17 ?_
    refine lv_goto (tgt := 25) hx hb d_JL_numberOfTrailingZeros_18 (by decide) ?_
    exact W.iret hx hb hr (fun t ht hW => ⟨_, rfl, ⟨_, rfl, ntz_hi v0 e_v2_2 c_4 rfl q_14.1⟩, ht⟩) (fun q h => nomatch h) d_JL_numberOfTrailingZeros_25
theorem d_JL_bitCount_0 : decode c_yJL_bitCount 0 = .ok (.lload_n 0, 1) := by decide +kernel
theorem d_JL_bitCount_1 : decode c_yJL_bitCount 1 = .ok (.lload_n 0, 1) := by decide +kernel
theorem d_JL_bitCount_2 : decode c_yJL_bitCount 2 = .ok (.iconst 1, 1) := by decide +kernel
theorem d_JL_bitCount_3 : decode c_yJL_bitCount 3 = .ok (.lushr, 1) := by decide +kernel
theorem d_JL_bitCount_4 : decode c_yJL_bitCount 4 = .ok (.ldc2_w 314, 3) := by decide +kernel
theorem d_JL_bitCount_7 : decode c_yJL_bitCount 7 = .ok (.land, 1) := by decide +kernel
theorem d_JL_bitCount_8 : decode c_yJL_bitCount 8 = .ok (.lsub, 1) := by decide +kernel
theorem d_JL_bitCount_9 : decode c_yJL_bitCount 9 = .ok (.lstore_n 0, 1) := by decide +kernel
theorem d_JL_bitCount_10 : decode c_yJL_bitCount 10 = .ok (.lload_n 0, 1) := by decide +kernel
theorem d_JL_bitCount_11 : decode c_yJL_bitCount 11 = .ok (.ldc2_w 316, 3) := by decide +kernel
theorem d_JL_bitCount_14 : decode c_yJL_bitCount 14 = .ok (.land, 1) := by decide +kernel
theorem d_JL_bitCount_15 : decode c_yJL_bitCount 15 = .ok (.lload_n 0, 1) := by decide +kernel
theorem d_JL_bitCount_16 : decode c_yJL_bitCount 16 = .ok (.iconst 2, 1) := by decide +kernel
theorem d_JL_bitCount_17 : decode c_yJL_bitCount 17 = .ok (.lushr, 1) := by decide +kernel
theorem d_JL_bitCount_18 : decode c_yJL_bitCount 18 = .ok (.ldc2_w 316, 3) := by decide +kernel
theorem d_JL_bitCount_21 : decode c_yJL_bitCount 21 = .ok (.land, 1) := by decide +kernel
theorem d_JL_bitCount_22 : decode c_yJL_bitCount 22 = .ok (.ladd, 1) := by decide +kernel
theorem d_JL_bitCount_23 : decode c_yJL_bitCount 23 = .ok (.lstore_n 0, 1) := by decide +kernel
theorem d_JL_bitCount_24 : decode c_yJL_bitCount 24 = .ok (.lload_n 0, 1) := by decide +kernel
theorem d_JL_bitCount_25 : decode c_yJL_bitCount 25 = .ok (.lload_n 0, 1) := by decide +kernel
theorem d_JL_bitCount_26 : decode c_yJL_bitCount 26 = .ok (.iconst 4, 1) := by decide +kernel
theorem d_JL_bitCount_27 : decode c_yJL_bitCount 27 = .ok (.lushr, 1) := by decide +kernel
theorem d_JL_bitCount_28 : decode c_yJL_bitCount 28 = .ok (.ladd, 1) := by decide +kernel
theorem d_JL_bitCount_29 : decode c_yJL_bitCount 29 = .ok (.ldc2_w 318, 3) := by decide +kernel
theorem d_JL_bitCount_32 : decode c_yJL_bitCount 32 = .ok (.land, 1) := by decide +kernel
theorem d_JL_bitCount_33 : decode c_yJL_bitCount 33 = .ok (.lstore_n 0, 1) := by decide +kernel
theorem d_JL_bitCount_34 : decode c_yJL_bitCount 34 = .ok (.lload_n 0, 1) := by decide +kernel
theorem d_JL_bitCount_35 : decode c_yJL_bitCount 35 = .ok (.lload_n 0, 1) := by decide +kernel
theorem d_JL_bitCount_36 : decode c_yJL_bitCount 36 = .ok (.bipush 8, 2) := by decide +kernel
theorem d_JL_bitCount_38 : decode c_yJL_bitCount 38 = .ok (.lushr, 1) := by decide +kernel
theorem d_JL_bitCount_39 : decode c_yJL_bitCount 39 = .ok (.ladd, 1) := by decide +kernel
theorem d_JL_bitCount_40 : decode c_yJL_bitCount 40 = .ok (.lstore_n 0, 1) := by decide +kernel
theorem d_JL_bitCount_41 : decode c_yJL_bitCount 41 = .ok (.lload_n 0, 1) := by decide +kernel
theorem d_JL_bitCount_42 : decode c_yJL_bitCount 42 = .ok (.lload_n 0, 1) := by decide +kernel
theorem d_JL_bitCount_43 : decode c_yJL_bitCount 43 = .ok (.bipush 16, 2) := by decide +kernel
theorem d_JL_bitCount_45 : decode c_yJL_bitCount 45 = .ok (.lushr, 1) := by decide +kernel
theorem d_JL_bitCount_46 : decode c_yJL_bitCount 46 = .ok (.ladd, 1) := by decide +kernel
theorem d_JL_bitCount_47 : decode c_yJL_bitCount 47 = .ok (.lstore_n 0, 1) := by decide +kernel
theorem d_JL_bitCount_48 : decode c_yJL_bitCount 48 = .ok (.lload_n 0, 1) := by decide +kernel
theorem d_JL_bitCount_49 : decode c_yJL_bitCount 49 = .ok (.lload_n 0, 1) := by decide +kernel
theorem d_JL_bitCount_50 : decode c_yJL_bitCount 50 = .ok (.bipush 32, 2) := by decide +kernel
theorem d_JL_bitCount_52 : decode c_yJL_bitCount 52 = .ok (.lushr, 1) := by decide +kernel
theorem d_JL_bitCount_53 : decode c_yJL_bitCount 53 = .ok (.ladd, 1) := by decide +kernel
theorem d_JL_bitCount_54 : decode c_yJL_bitCount 54 = .ok (.lstore_n 0, 1) := by decide +kernel
theorem d_JL_bitCount_55 : decode c_yJL_bitCount 55 = .ok (.lload_n 0, 1) := by decide +kernel
theorem d_JL_bitCount_56 : decode c_yJL_bitCount 56 = .ok (.l2i, 1) := by decide +kernel
theorem d_JL_bitCount_57 : decode c_yJL_bitCount 57 = .ok (.bipush 127, 2) := by decide +kernel
theorem d_JL_bitCount_59 : decode c_yJL_bitCount 59 = .ok (.iand, 1) := by decide +kernel
theorem d_JL_bitCount_60 : decode c_yJL_bitCount 60 = .ok (.ireturn, 1) := by decide +kernel
set_option maxHeartbeats 4000000 in
set_option maxRecDepth 100000 in
theorem c_Long_bc (l : Launch) (dC : Nat → ClassId) (dI : Nat → Nat → Nat) (v : Int64)  : Met l y_JL_bitCount w_JL_bitCount ({ frames := 0, cells := 0, slots := 0, locals := 0 }) (va_Pc [.long v] (zPr (dC, dI) vwCl [] [])) (vp_Si (fun r => r = iZ (pop v))) 0 0 (fun _ => False) := by
  refine va_MetF (cc := c_yJL_bitCount) (maxL := 2) (ret := (some .int)) (by decide +kernel) rfl ?_
  intro p e s m args below meth c s₁ B hml hv
  obtain ⟨rfl, hP, hK⟩ := hv
  have hx := B.exec
  have hb := B.bytes
  have hr := B.returns
  have hts0 := atoms_spec (ws := w_JL_bitCount) B.pre
  have hts : ∀ w ∈ gT, w.before _ s = true := fun w h => hts0 w (List.mem_cons_of_mem _ h)
  have hown : s.vm.findClass R_JL = some m.cls := findClass_of_methodNamed B.named
  have hlocks := B.notSynchronized
  have hl := lv_entry ([.long v]) (n := 2) (Nat.le_of_ble_eq_true rfl)
  rw [lg_entry_eq]
  generalize (lg_sl ([.long v]) ++ List.replicate (2 - (lg_sl ([.long v])).length) Slot.unset).toArray = ls at hl ⊢
  have hl : lv_has ls 2 [(0, .long v)] := hl
  refine lv_lload_n hx hb d_JL_bitCount_0 rfl (lv_at hl 0 rfl) ?_
  refine lv_lload_n hx hb d_JL_bitCount_1 rfl (lv_at hl 0 rfl) ?_
  refine lv_iconst (v := iZ (1)) hx hb d_JL_bitCount_2 rfl ?_
  refine lv_lushr hx hb d_JL_bitCount_3 rfl ?_
  refine lv_ldc2 (v := lZ (6148914691236517205)) hx hb hown (hts _ t_629) d_JL_bitCount_4 ?_
  refine lv_land hx hb d_JL_bitCount_7 ?_
  refine lv_lsub hx hb d_JL_bitCount_8 ?_
  refine lv_topl (fun v0_9 e_v0_9 => ?_)
  refine lv_lstore_n (lv' := [(0, .long v0_9)]) hx hb d_JL_bitCount_9 rfl hl (by decide) rfl (fun ls hl => ?_)
  refine lv_lload_n hx hb d_JL_bitCount_10 rfl (lv_at hl 0 rfl) ?_
  refine lv_ldc2 (v := lZ (3689348814741910323)) hx hb hown (hts _ t_630) d_JL_bitCount_11 ?_
  refine lv_land hx hb d_JL_bitCount_14 ?_
  refine lv_lload_n hx hb d_JL_bitCount_15 rfl (lv_at hl 0 rfl) ?_
  refine lv_iconst (v := iZ (2)) hx hb d_JL_bitCount_16 rfl ?_
  refine lv_lushr hx hb d_JL_bitCount_17 rfl ?_
  refine lv_ldc2 (v := lZ (3689348814741910323)) hx hb hown (hts _ t_630) d_JL_bitCount_18 ?_
  refine lv_land hx hb d_JL_bitCount_21 ?_
  refine lv_ladd hx hb d_JL_bitCount_22 ?_
  refine lv_topl (fun v0_23 e_v0_23 => ?_)
  refine lv_lstore_n (lv' := [(0, .long v0_23)]) hx hb d_JL_bitCount_23 rfl hl (by decide) rfl (fun ls hl => ?_)
  refine lv_lload_n hx hb d_JL_bitCount_24 rfl (lv_at hl 0 rfl) ?_
  refine lv_lload_n hx hb d_JL_bitCount_25 rfl (lv_at hl 0 rfl) ?_
  refine lv_iconst (v := iZ (4)) hx hb d_JL_bitCount_26 rfl ?_
  refine lv_lushr hx hb d_JL_bitCount_27 rfl ?_
  refine lv_ladd hx hb d_JL_bitCount_28 ?_
  refine lv_ldc2 (v := lZ (1085102592571150095)) hx hb hown (hts _ t_631) d_JL_bitCount_29 ?_
  refine lv_land hx hb d_JL_bitCount_32 ?_
  refine lv_topl (fun v0_33 e_v0_33 => ?_)
  refine lv_lstore_n (lv' := [(0, .long v0_33)]) hx hb d_JL_bitCount_33 rfl hl (by decide) rfl (fun ls hl => ?_)
  refine lv_lload_n hx hb d_JL_bitCount_34 rfl (lv_at hl 0 rfl) ?_
  refine lv_lload_n hx hb d_JL_bitCount_35 rfl (lv_at hl 0 rfl) ?_
  refine lv_bipush (v := iZ (8)) hx hb d_JL_bitCount_36 (by decide) ?_
  refine lv_lushr hx hb d_JL_bitCount_38 rfl ?_
  refine lv_ladd hx hb d_JL_bitCount_39 ?_
  refine lv_topl (fun v0_40 e_v0_40 => ?_)
  refine lv_lstore_n (lv' := [(0, .long v0_40)]) hx hb d_JL_bitCount_40 rfl hl (by decide) rfl (fun ls hl => ?_)
  refine lv_lload_n hx hb d_JL_bitCount_41 rfl (lv_at hl 0 rfl) ?_
  refine lv_lload_n hx hb d_JL_bitCount_42 rfl (lv_at hl 0 rfl) ?_
  refine lv_bipush (v := iZ (16)) hx hb d_JL_bitCount_43 (by decide) ?_
  refine lv_lushr hx hb d_JL_bitCount_45 rfl ?_
  refine lv_ladd hx hb d_JL_bitCount_46 ?_
  refine lv_topl (fun v0_47 e_v0_47 => ?_)
  refine lv_lstore_n (lv' := [(0, .long v0_47)]) hx hb d_JL_bitCount_47 rfl hl (by decide) rfl (fun ls hl => ?_)
  refine lv_lload_n hx hb d_JL_bitCount_48 rfl (lv_at hl 0 rfl) ?_
  refine lv_lload_n hx hb d_JL_bitCount_49 rfl (lv_at hl 0 rfl) ?_
  refine lv_bipush (v := iZ (32)) hx hb d_JL_bitCount_50 (by decide) ?_
  refine lv_lushr hx hb d_JL_bitCount_52 rfl ?_
  refine lv_ladd hx hb d_JL_bitCount_53 ?_
  refine lv_topl (fun v0_54 e_v0_54 => ?_)
  refine lv_lstore_n (lv' := [(0, .long v0_54)]) hx hb d_JL_bitCount_54 rfl hl (by decide) rfl (fun ls hl => ?_)
  refine lv_lload_n hx hb d_JL_bitCount_55 rfl (lv_at hl 0 rfl) ?_
  refine lv_l2i hx hb d_JL_bitCount_56 rfl ?_
  refine lv_bipush (v := iZ (127)) hx hb d_JL_bitCount_57 (by decide) ?_
  refine lv_iand hx hb d_JL_bitCount_59 ?_
  exact W.iret hx hb hr (fun t ht hW => ⟨_, rfl, bc_fin e_v0_9 e_v0_23 e_v0_33 e_v0_40 e_v0_47 e_v0_54, ht⟩) (fun q h => nomatch h) d_JL_bitCount_60
theorem d_Pa_leastX_0 : decode c_yPa_leastX 0 = .ok (.iconst 0, 1) := by decide +kernel
theorem d_Pa_leastX_1 : decode c_yPa_leastX 1 = .ok (.istore_n 1, 1) := by decide +kernel
theorem d_Pa_leastX_2 : decode c_yPa_leastX 2 = .ok (.iload_n 1, 1) := by decide +kernel
theorem d_Pa_leastX_3 : decode c_yPa_leastX 3 = .ok (.bipush 16, 2) := by decide +kernel
theorem d_Pa_leastX_5 : decode c_yPa_leastX 5 = .ok (.if_icmp .ge 31, 3) := by decide +kernel
theorem d_Pa_leastX_8 : decode c_yPa_leastX 8 = .ok (.aload_n 0, 1) := by decide +kernel
theorem d_Pa_leastX_9 : decode c_yPa_leastX 9 = .ok (.iload_n 1, 1) := by decide +kernel
theorem d_Pa_leastX_10 : decode c_yPa_leastX 10 = .ok (.invokevirtual 68, 3) := by decide +kernel
theorem d_Pa_leastX_13 : decode c_yPa_leastX 13 = .ok (.lstore_n 2, 1) := by decide +kernel
theorem d_Pa_leastX_14 : decode c_yPa_leastX 14 = .ok (.lload_n 2, 1) := by decide +kernel
theorem d_Pa_leastX_15 : decode c_yPa_leastX 15 = .ok (.lconst 0, 1) := by decide +kernel
theorem d_Pa_leastX_16 : decode c_yPa_leastX 16 = .ok (.lcmp, 1) := by decide +kernel
theorem d_Pa_leastX_17 : decode c_yPa_leastX 17 = .ok (.ifCond .eq 13, 3) := by decide +kernel
theorem d_Pa_leastX_20 : decode c_yPa_leastX 20 = .ok (.iload_n 1, 1) := by decide +kernel
theorem d_Pa_leastX_21 : decode c_yPa_leastX 21 = .ok (.bipush 64, 2) := by decide +kernel
theorem d_Pa_leastX_23 : decode c_yPa_leastX 23 = .ok (.imul, 1) := by decide +kernel
theorem d_Pa_leastX_24 : decode c_yPa_leastX 24 = .ok (.lload_n 2, 1) := by decide +kernel
theorem d_Pa_leastX_25 : decode c_yPa_leastX 25 = .ok (.invokestatic 72, 3) := by decide +kernel
theorem d_Pa_leastX_28 : decode c_yPa_leastX 28 = .ok (.iadd, 1) := by decide +kernel
theorem d_Pa_leastX_29 : decode c_yPa_leastX 29 = .ok (.ireturn, 1) := by decide +kernel
theorem d_Pa_leastX_30 : decode c_yPa_leastX 30 = .ok (.iinc 1 1, 3) := by decide +kernel
theorem d_Pa_leastX_33 : decode c_yPa_leastX 33 = .ok (.goto (-31), 3) := by decide +kernel
theorem d_Pa_leastX_36 : decode c_yPa_leastX 36 = .ok (.iconst (-1), 1) := by decide +kernel
theorem d_Pa_leastX_37 : decode c_yPa_leastX 37 = .ok (.ireturn, 1) := by decide +kernel
set_option maxHeartbeats 4000000 in
set_option maxRecDepth 100000 in
theorem c_Paper_leastX (l : Launch) (dC : Nat → ClassId) (dI : Nat → Nat → Nat) (hp hw hs hk : Nat) (cL : ClassId) (w h mn : Int) (G : Int → Int64) (pic : Int → Int → Bool) (w1 : 1 ≤ w) (w2 : w ≤ 1024) (h1 : 1 ≤ h) (h2 : h ≤ 1024) (hR : Rep G pic) (hO : Off w h pic) : Met l y_Pa_leastX w_Pa_leastX ({ frames := 2, cells := 0, slots := 0, locals := 43 }) (va_Pc [.ref hp] (zPr (dC, dI) vwCl [(hp, .inr (2, [.int (iZ w), .int (iZ h), .int (iZ mn), .ref hw, .ref hs, .ref hk])), (hw, .inl (cL, 16384, .inr (.inl (aL G))))] [(cL, .long)])) (vp_Si (fun r => ∃ z : Int, r = iZ z ∧ edgeS (fun x => ∃ y, pic x y = true) z)) 0 0 (fun _ => False) := by
  refine Met.ofW (cc := c_yPa_leastX) (maxL := 4) (ret := (some .int)) (by decide) rfl ?_
  intro p e s m args below meth c s₁ B hml hv
  obtain ⟨rfl, hP, hK⟩ := hv
  have hx := B.exec
  have hb := B.bytes
  have hr := B.returns
  have hts0 := atoms_spec (ws := w_Pa_leastX) B.pre
  have hts : ∀ w ∈ gT, w.before _ s = true := fun w h => hts0 w (List.mem_cons_of_mem _ h)
  have hown : s.vm.findClass R_Pa = some m.cls := findClass_of_methodNamed B.named
  have hlocks := B.notSynchronized
  have hl := lv_entry ([.ref hp]) (n := 4) (Nat.le_of_ble_eq_true rfl)
  rw [lg_entry_eq]
  generalize (lg_sl ([.ref hp]) ++ List.replicate (4 - (lg_sl ([.ref hp])).length) Slot.unset).toArray = ls at hl ⊢
  have hl : lv_has ls 4 [(0, .ref hp)] := hl
  refine lv_iconst (v := iZ (0)) hx hb d_Pa_leastX_0 rfl ?_
  refine lv_istore_n (lv' := [(1, .int (iZ 0)), (0, .ref hp)]) hx hb d_Pa_leastX_1 rfl hl (by decide) rfl (fun ls hl => ?_)
  have LP_2 : ∀ (n_2 : Nat) (col : Int), (0 ≤ col) → (col ≤ 16) → (∀ x, x / 64 < col → ¬ ∃ y, pic x y = true) → (16 - col).toNat < n_2 → ∀ (ls : Array Slot), lv_has ls 4 [(0, .ref hp), (1, .int (iZ col))] → W p l e ({ frames := 2, cells := 0, slots := 0, locals := 43 } : Room) s m ([.ref hp] : List Value).toArray below meth c s.heap [] 0 0 (MQ below (vp_Si (fun r => ∃ z : Int, r = iZ z ∧ edgeS (fun x => ∃ y, pic x y = true) z)) ([.ref hp] : List Value).toArray s 0 0 (fun _ => False)) (F0 m 2 ls []) := by
    intro n_2
    induction n_2 with
    | zero => intro col i1 i2 i3 hm; exact absurd hm (by omega)
    | succ n_2 ih_2 =>
      intro col i1 i2 i3 hm_2 ls hl
      refine lv_iload_n hx hb d_Pa_leastX_2 rfl (lv_at hl 1 rfl) ?_
      refine lv_bipush (v := iZ (16)) hx hb d_Pa_leastX_3 (by decide) ?_
      refine zi_ge (tgt := 36) hx hb d_Pa_leastX_5 (by decide) (by omega) (by omega) (by omega) (by omega) (fun c_5 => ?_) (fun c_5 => ?_)
      · refine lv_iconst (v := iZ (-1)) hx hb d_Pa_leastX_36 rfl ?_
        exact W.iret hx hb hr (fun t ht hW => ⟨_, rfl, ⟨-1, rfl, Or.inl ⟨rfl, fun x ⟨y, e⟩ => i3 x (by have := Off_in hO e; omega) ⟨y, e⟩⟩⟩, ht⟩) (fun q h => nomatch h) d_Pa_leastX_37
      · refine lv_aload_n hx hb d_Pa_leastX_8 rfl (lv_at hl 0 rfl) ?_
        refine lv_iload_n hx hb d_Pa_leastX_9 rfl (lv_at hl 1 rfl) ?_
        refine vp_callSl (va_runV (As := [.int (iZ col)]) (rest := []) ⟨hx, hb, hml, hown, hts⟩ (c_Paper_allOfColumn l dC dI hp hw hs hk cL w h mn G pic col (by first | omega | assumption) (by first | omega | assumption) (by first | omega | assumption) (by first | omega | assumption) (by first | omega | assumption) (by first | omega | assumption) (by first | omega | assumption)) (cwV 1 hts (gV t_589 t_591 s_12 t_2 t_592) rfl rfl rfl (by decide +kernel) ⟨Nat.le_of_ble_eq_true rfl, Nat.le_of_ble_eq_true rfl⟩) ⟨zPr_blind, va_recv hK hP (ci := 2) (q0 := 0) rfl rfl, zPr_pre hP hK [0, 1] [0] rfl rfl⟩ rfl rfl hl.1 rfl (lv_room (Nat.le_of_ble_eq_true rfl)) d_Pa_leastX_10 ⟨Nat.le_of_ble_eq_true rfl, Nat.le_of_ble_eq_true rfl⟩).run (fun r_10 q_10 => ?_)
        refine lv_lstore_n (lv' := [(2, .long r_10), (0, .ref hp), (1, .int (iZ col))]) hx hb d_Pa_leastX_13 rfl hl (by decide) rfl (fun ls hl => ?_)
        refine lv_lload_n hx hb d_Pa_leastX_14 rfl (lv_at hl 0 rfl) ?_
        refine lv_lconst (v := lZ 0) hx hb d_Pa_leastX_15 (by decide) ?_
        refine zr_eq (tgt := 30) hx hb d_Pa_leastX_16 d_Pa_leastX_17 (by decide) (fun c_16 => ?_) (fun c_16 => ?_)
        · refine lv_iinc (v := iZ (col + 1)) (lv' := [(1, .int (iZ (col + 1))), (2, .long r_10), (0, .ref hp)]) hx hb d_Pa_leastX_30 hl (k := 2) rfl (iZ_add _ _) (by decide) rfl (fun ls hl => ?_)
          refine lv_goto (tgt := 2) hx hb d_Pa_leastX_33 (by decide) ?_
          exact ih_2 (col + 1) (by omega) (by omega) (fun x q => by by_cases q2 : x / 64 = col; (exact col_none q_10 c_16 hO q2); exact i3 x (by omega)) (by omega) ls (lv_sub hl [2, 0] rfl)
        · refine lv_iload_n hx hb d_Pa_leastX_20 rfl (lv_at hl 2 rfl) ?_
          refine lv_bipush (v := iZ (64)) hx hb d_Pa_leastX_21 (by decide) ?_
          refine zi_mul hx hb d_Pa_leastX_23 ?_
          refine lv_lload_n hx hb d_Pa_leastX_24 rfl (lv_at hl 0 rfl) ?_
          refine vp_callSi (va_runS (As := [.long r_10]) (rest := [.int (iZ (col * 64))]) ⟨hx, hb, hml, hown, hts⟩ (c_Long_nlz l dC dI r_10 (by first | omega | assumption)) (va_cwS 1 hts (gS t_593 t_594 t_17 t_595) rfl rfl rfl (by decide +kernel) ⟨Nat.le_of_ble_eq_true rfl, Nat.le_of_ble_eq_true rfl⟩) ⟨zPr_blind, zPr_pre hP hK [] [] rfl rfl⟩ rfl rfl hl.1 rfl (lv_room (Nat.le_of_ble_eq_true rfl)) d_Pa_leastX_25 ⟨Nat.le_of_ble_eq_true rfl, Nat.le_of_ble_eq_true rfl⟩).run (fun r_25 q_25 => ?_)
          obtain ⟨k_25, rfl, q_25⟩ := q_25
          refine zi_add hx hb d_Pa_leastX_28 ?_
          exact W.iret hx hb hr (fun t ht hW => ⟨_, rfl, ⟨_, rfl, lx_hit i1 q_10 q_25 hO i3⟩, ht⟩) (fun q h => nomatch h) d_Pa_leastX_29
  exact LP_2 _ 0 (by omega) (by omega) (fun x q ⟨y, e⟩ => by have := Off_in hO e; omega) (Nat.lt_succ_self _) ls (lv_sub hl [1, 0] rfl)
theorem d_Pa_greatestX_0 : decode c_yPa_greatestX 0 = .ok (.bipush 15, 2) := by decide +kernel
theorem d_Pa_greatestX_2 : decode c_yPa_greatestX 2 = .ok (.istore_n 1, 1) := by decide +kernel
theorem d_Pa_greatestX_3 : decode c_yPa_greatestX 3 = .ok (.iload_n 1, 1) := by decide +kernel
theorem d_Pa_greatestX_4 : decode c_yPa_greatestX 4 = .ok (.ifCond .lt 36, 3) := by decide +kernel
theorem d_Pa_greatestX_7 : decode c_yPa_greatestX 7 = .ok (.aload_n 0, 1) := by decide +kernel
theorem d_Pa_greatestX_8 : decode c_yPa_greatestX 8 = .ok (.iload_n 1, 1) := by decide +kernel
theorem d_Pa_greatestX_9 : decode c_yPa_greatestX 9 = .ok (.invokevirtual 68, 3) := by decide +kernel
theorem d_Pa_greatestX_12 : decode c_yPa_greatestX 12 = .ok (.lstore_n 2, 1) := by decide +kernel
theorem d_Pa_greatestX_13 : decode c_yPa_greatestX 13 = .ok (.lload_n 2, 1) := by decide +kernel
theorem d_Pa_greatestX_14 : decode c_yPa_greatestX 14 = .ok (.lconst 0, 1) := by decide +kernel
theorem d_Pa_greatestX_15 : decode c_yPa_greatestX 15 = .ok (.lcmp, 1) := by decide +kernel
theorem d_Pa_greatestX_16 : decode c_yPa_greatestX 16 = .ok (.ifCond .eq 18, 3) := by decide +kernel
theorem d_Pa_greatestX_19 : decode c_yPa_greatestX 19 = .ok (.iload_n 1, 1) := by decide +kernel
theorem d_Pa_greatestX_20 : decode c_yPa_greatestX 20 = .ok (.bipush 64, 2) := by decide +kernel
theorem d_Pa_greatestX_22 : decode c_yPa_greatestX 22 = .ok (.imul, 1) := by decide +kernel
theorem d_Pa_greatestX_23 : decode c_yPa_greatestX 23 = .ok (.bipush 64, 2) := by decide +kernel
theorem d_Pa_greatestX_25 : decode c_yPa_greatestX 25 = .ok (.iadd, 1) := by decide +kernel
theorem d_Pa_greatestX_26 : decode c_yPa_greatestX 26 = .ok (.iconst 1, 1) := by decide +kernel
theorem d_Pa_greatestX_27 : decode c_yPa_greatestX 27 = .ok (.isub, 1) := by decide +kernel
theorem d_Pa_greatestX_28 : decode c_yPa_greatestX 28 = .ok (.lload_n 2, 1) := by decide +kernel
theorem d_Pa_greatestX_29 : decode c_yPa_greatestX 29 = .ok (.invokestatic 75, 3) := by decide +kernel
theorem d_Pa_greatestX_32 : decode c_yPa_greatestX 32 = .ok (.isub, 1) := by decide +kernel
theorem d_Pa_greatestX_33 : decode c_yPa_greatestX 33 = .ok (.ireturn, 1) := by decide +kernel
theorem d_Pa_greatestX_34 : decode c_yPa_greatestX 34 = .ok (.iinc 1 (-1), 3) := by decide +kernel
theorem d_Pa_greatestX_37 : decode c_yPa_greatestX 37 = .ok (.goto (-34), 3) := by decide +kernel
theorem d_Pa_greatestX_40 : decode c_yPa_greatestX 40 = .ok (.iconst (-1), 1) := by decide +kernel
theorem d_Pa_greatestX_41 : decode c_yPa_greatestX 41 = .ok (.ireturn, 1) := by decide +kernel
set_option maxHeartbeats 4000000 in
set_option maxRecDepth 100000 in
theorem c_Paper_greatestX (l : Launch) (dC : Nat → ClassId) (dI : Nat → Nat → Nat) (hp hw hs hk : Nat) (cL : ClassId) (w h mn : Int) (G : Int → Int64) (pic : Int → Int → Bool) (w1 : 1 ≤ w) (w2 : w ≤ 1024) (h1 : 1 ≤ h) (h2 : h ≤ 1024) (hR : Rep G pic) (hO : Off w h pic) : Met l y_Pa_greatestX w_Pa_greatestX ({ frames := 2, cells := 0, slots := 0, locals := 43 }) (va_Pc [.ref hp] (zPr (dC, dI) vwCl [(hp, .inr (2, [.int (iZ w), .int (iZ h), .int (iZ mn), .ref hw, .ref hs, .ref hk])), (hw, .inl (cL, 16384, .inr (.inl (aL G))))] [(cL, .long)])) (vp_Si (fun r => ∃ z : Int, r = iZ z ∧ edgeG (fun x => ∃ y, pic x y = true) z)) 0 0 (fun _ => False) := by
  refine Met.ofW (cc := c_yPa_greatestX) (maxL := 4) (ret := (some .int)) (by decide) rfl ?_
  intro p e s m args below meth c s₁ B hml hv
  obtain ⟨rfl, hP, hK⟩ := hv
  have hx := B.exec
  have hb := B.bytes
  have hr := B.returns
  have hts0 := atoms_spec (ws := w_Pa_greatestX) B.pre
  have hts : ∀ w ∈ gT, w.before _ s = true := fun w h => hts0 w (List.mem_cons_of_mem _ h)
  have hown : s.vm.findClass R_Pa = some m.cls := findClass_of_methodNamed B.named
  have hlocks := B.notSynchronized
  have hl := lv_entry ([.ref hp]) (n := 4) (Nat.le_of_ble_eq_true rfl)
  rw [lg_entry_eq]
  generalize (lg_sl ([.ref hp]) ++ List.replicate (4 - (lg_sl ([.ref hp])).length) Slot.unset).toArray = ls at hl ⊢
  have hl : lv_has ls 4 [(0, .ref hp)] := hl
  refine lv_bipush (v := iZ (15)) hx hb d_Pa_greatestX_0 (by decide) ?_
  refine lv_istore_n (lv' := [(1, .int (iZ 15)), (0, .ref hp)]) hx hb d_Pa_greatestX_2 rfl hl (by decide) rfl (fun ls hl => ?_)
  have LP_3 : ∀ (n_3 : Nat) (col : Int), (-1 ≤ col) → (col ≤ 15) → (∀ x, col < x / 64 → ¬ ∃ y, pic x y = true) → (col + 1).toNat < n_3 → ∀ (ls : Array Slot), lv_has ls 4 [(0, .ref hp), (1, .int (iZ col))] → W p l e ({ frames := 2, cells := 0, slots := 0, locals := 43 } : Room) s m ([.ref hp] : List Value).toArray below meth c s.heap [] 0 0 (MQ below (vp_Si (fun r => ∃ z : Int, r = iZ z ∧ edgeG (fun x => ∃ y, pic x y = true) z)) ([.ref hp] : List Value).toArray s 0 0 (fun _ => False)) (F0 m 3 ls []) := by
    intro n_3
    induction n_3 with
    | zero => intro col i1 i2 i3 hm; exact absurd hm (by omega)
    | succ n_3 ih_3 =>
      intro col i1 i2 i3 hm_3 ls hl
      refine lv_iload_n hx hb d_Pa_greatestX_3 rfl (lv_at hl 1 rfl) ?_
      refine zi_if_lt (tgt := 40) hx hb d_Pa_greatestX_4 (by decide) (by omega) (by omega) (fun c_4 => ?_) (fun c_4 => ?_)
      · refine lv_iconst (v := iZ (-1)) hx hb d_Pa_greatestX_40 rfl ?_
        exact W.iret hx hb hr (fun t ht hW => ⟨_, rfl, ⟨-1, rfl, Or.inl ⟨rfl, fun x ⟨y, e⟩ => i3 x (by have := Off_in hO e; omega) ⟨y, e⟩⟩⟩, ht⟩) (fun q h => nomatch h) d_Pa_greatestX_41
      · refine lv_aload_n hx hb d_Pa_greatestX_7 rfl (lv_at hl 0 rfl) ?_
        refine lv_iload_n hx hb d_Pa_greatestX_8 rfl (lv_at hl 1 rfl) ?_
        refine vp_callSl (va_runV (As := [.int (iZ col)]) (rest := []) ⟨hx, hb, hml, hown, hts⟩ (c_Paper_allOfColumn l dC dI hp hw hs hk cL w h mn G pic col (by first | omega | assumption) (by first | omega | assumption) (by first | omega | assumption) (by first | omega | assumption) (by first | omega | assumption) (by first | omega | assumption) (by first | omega | assumption)) (cwV 1 hts (gV t_589 t_591 s_12 t_2 t_592) rfl rfl rfl (by decide +kernel) ⟨Nat.le_of_ble_eq_true rfl, Nat.le_of_ble_eq_true rfl⟩) ⟨zPr_blind, va_recv hK hP (ci := 2) (q0 := 0) rfl rfl, zPr_pre hP hK [0, 1] [0] rfl rfl⟩ rfl rfl hl.1 rfl (lv_room (Nat.le_of_ble_eq_true rfl)) d_Pa_greatestX_9 ⟨Nat.le_of_ble_eq_true rfl, Nat.le_of_ble_eq_true rfl⟩).run (fun r_9 q_9 => ?_)
        refine lv_lstore_n (lv' := [(2, .long r_9), (0, .ref hp), (1, .int (iZ col))]) hx hb d_Pa_greatestX_12 rfl hl (by decide) rfl (fun ls hl => ?_)
        refine lv_lload_n hx hb d_Pa_greatestX_13 rfl (lv_at hl 0 rfl) ?_
        refine lv_lconst (v := lZ 0) hx hb d_Pa_greatestX_14 (by decide) ?_
        refine zr_eq (tgt := 34) hx hb d_Pa_greatestX_15 d_Pa_greatestX_16 (by decide) (fun c_15 => ?_) (fun c_15 => ?_)
        · refine lv_iinc (v := iZ (col + (-1))) (lv' := [(1, .int (iZ (col + (-1)))), (2, .long r_9), (0, .ref hp)]) hx hb d_Pa_greatestX_34 hl (k := 2) rfl (iZ_add _ _) (by decide) rfl (fun ls hl => ?_)
          refine lv_goto (tgt := 3) hx hb d_Pa_greatestX_37 (by decide) ?_
          exact ih_3 (col + (-1)) (by omega) (by omega) (fun x q => by by_cases q2 : x / 64 = col; (exact col_none q_9 c_15 hO q2); exact i3 x (by omega)) (by omega) ls (lv_sub hl [2, 0] rfl)
        · refine lv_iload_n hx hb d_Pa_greatestX_19 rfl (lv_at hl 2 rfl) ?_
          refine lv_bipush (v := iZ (64)) hx hb d_Pa_greatestX_20 (by decide) ?_
          refine zi_mul hx hb d_Pa_greatestX_22 ?_
          refine lv_bipush (v := iZ (64)) hx hb d_Pa_greatestX_23 (by decide) ?_
          refine zi_add hx hb d_Pa_greatestX_25 ?_
          refine lv_iconst (v := iZ (1)) hx hb d_Pa_greatestX_26 rfl ?_
          refine zi_sub hx hb d_Pa_greatestX_27 ?_
          refine lv_lload_n hx hb d_Pa_greatestX_28 rfl (lv_at hl 0 rfl) ?_
          refine vp_callSi (va_runS (As := [.long r_9]) (rest := [.int (iZ (((col * 64) + 64) - 1))]) ⟨hx, hb, hml, hown, hts⟩ (c_Long_ntz l dC dI r_9 (by first | omega | assumption)) (va_cwS 1 hts (gS t_612 t_613 t_17 t_614) rfl rfl rfl (by decide +kernel) ⟨Nat.le_of_ble_eq_true rfl, Nat.le_of_ble_eq_true rfl⟩) ⟨zPr_blind, zPr_pre hP hK [] [] rfl rfl⟩ rfl rfl hl.1 rfl (lv_room (Nat.le_of_ble_eq_true rfl)) d_Pa_greatestX_29 ⟨Nat.le_of_ble_eq_true rfl, Nat.le_of_ble_eq_true rfl⟩).run (fun r_29 q_29 => ?_)
          obtain ⟨k_29, rfl, q_29⟩ := q_29
          refine zi_sub hx hb d_Pa_greatestX_32 ?_
          exact W.iret hx hb hr (fun t ht hW => ⟨_, rfl, ⟨_, rfl, gx_hit (by omega) q_9 q_29 hO i3⟩, ht⟩) (fun q h => nomatch h) d_Pa_greatestX_33
  exact LP_3 _ 15 (by omega) (by omega) (fun x q ⟨y, e⟩ => by have := Off_in hO e; omega) (Nat.lt_succ_self _) ls (lv_sub hl [1, 0] rfl)
theorem d_Pa_darkIn_0 : decode c_yPa_darkIn 0 = .ok (.iload_n 1, 1) := by decide +kernel
theorem d_Pa_darkIn_1 : decode c_yPa_darkIn 1 = .ok (.iconst 0, 1) := by decide +kernel
theorem d_Pa_darkIn_2 : decode c_yPa_darkIn 2 = .ok (.invokestatic 41, 3) := by decide +kernel
theorem d_Pa_darkIn_5 : decode c_yPa_darkIn 5 = .ok (.istore 5, 2) := by decide +kernel
theorem d_Pa_darkIn_7 : decode c_yPa_darkIn 7 = .ok (.iload_n 3, 1) := by decide +kernel
theorem d_Pa_darkIn_8 : decode c_yPa_darkIn 8 = .ok (.aload_n 0, 1) := by decide +kernel
theorem d_Pa_darkIn_9 : decode c_yPa_darkIn 9 = .ok (.getfield 11, 3) := by decide +kernel
theorem d_Pa_darkIn_12 : decode c_yPa_darkIn 12 = .ok (.iconst 1, 1) := by decide +kernel
theorem d_Pa_darkIn_13 : decode c_yPa_darkIn 13 = .ok (.isub, 1) := by decide +kernel
theorem d_Pa_darkIn_14 : decode c_yPa_darkIn 14 = .ok (.invokestatic 47, 3) := by decide +kernel
theorem d_Pa_darkIn_17 : decode c_yPa_darkIn 17 = .ok (.istore 6, 2) := by decide +kernel
theorem d_Pa_darkIn_19 : decode c_yPa_darkIn 19 = .ok (.iload_n 2, 1) := by decide +kernel
theorem d_Pa_darkIn_20 : decode c_yPa_darkIn 20 = .ok (.iconst 0, 1) := by decide +kernel
theorem d_Pa_darkIn_21 : decode c_yPa_darkIn 21 = .ok (.invokestatic 41, 3) := by decide +kernel
theorem d_Pa_darkIn_24 : decode c_yPa_darkIn 24 = .ok (.istore 7, 2) := by decide +kernel
theorem d_Pa_darkIn_26 : decode c_yPa_darkIn 26 = .ok (.iload 4, 2) := by decide +kernel
theorem d_Pa_darkIn_28 : decode c_yPa_darkIn 28 = .ok (.aload_n 0, 1) := by decide +kernel
theorem d_Pa_darkIn_29 : decode c_yPa_darkIn 29 = .ok (.getfield 15, 3) := by decide +kernel
theorem d_Pa_darkIn_32 : decode c_yPa_darkIn 32 = .ok (.iconst 1, 1) := by decide +kernel
theorem d_Pa_darkIn_33 : decode c_yPa_darkIn 33 = .ok (.isub, 1) := by decide +kernel
theorem d_Pa_darkIn_34 : decode c_yPa_darkIn 34 = .ok (.invokestatic 47, 3) := by decide +kernel
theorem d_Pa_darkIn_37 : decode c_yPa_darkIn 37 = .ok (.istore 8, 2) := by decide +kernel
theorem d_Pa_darkIn_39 : decode c_yPa_darkIn 39 = .ok (.iload 5, 2) := by decide +kernel
theorem d_Pa_darkIn_41 : decode c_yPa_darkIn 41 = .ok (.iload 6, 2) := by decide +kernel
theorem d_Pa_darkIn_43 : decode c_yPa_darkIn 43 = .ok (.if_icmp .le 5, 3) := by decide +kernel
theorem d_Pa_darkIn_46 : decode c_yPa_darkIn 46 = .ok (.iconst 0, 1) := by decide +kernel
theorem d_Pa_darkIn_47 : decode c_yPa_darkIn 47 = .ok (.ireturn, 1) := by decide +kernel
theorem d_Pa_darkIn_48 : decode c_yPa_darkIn 48 = .ok (.iconst 0, 1) := by decide +kernel
theorem d_Pa_darkIn_49 : decode c_yPa_darkIn 49 = .ok (.istore 9, 2) := by decide +kernel
theorem d_Pa_darkIn_51 : decode c_yPa_darkIn 51 = .ok (.iload 5, 2) := by decide +kernel
theorem d_Pa_darkIn_53 : decode c_yPa_darkIn 53 = .ok (.bipush 64, 2) := by decide +kernel
theorem d_Pa_darkIn_55 : decode c_yPa_darkIn 55 = .ok (.idiv, 1) := by decide +kernel
theorem d_Pa_darkIn_56 : decode c_yPa_darkIn 56 = .ok (.istore 10, 2) := by decide +kernel
theorem d_Pa_darkIn_58 : decode c_yPa_darkIn 58 = .ok (.iload 10, 2) := by decide +kernel
theorem d_Pa_darkIn_60 : decode c_yPa_darkIn 60 = .ok (.iload 6, 2) := by decide +kernel
theorem d_Pa_darkIn_62 : decode c_yPa_darkIn 62 = .ok (.bipush 64, 2) := by decide +kernel
theorem d_Pa_darkIn_64 : decode c_yPa_darkIn 64 = .ok (.idiv, 1) := by decide +kernel
theorem d_Pa_darkIn_65 : decode c_yPa_darkIn 65 = .ok (.if_icmp .gt 61, 3) := by decide +kernel
theorem d_Pa_darkIn_68 : decode c_yPa_darkIn 68 = .ok (.iload 10, 2) := by decide +kernel
theorem d_Pa_darkIn_70 : decode c_yPa_darkIn 70 = .ok (.iload 5, 2) := by decide +kernel
theorem d_Pa_darkIn_72 : decode c_yPa_darkIn 72 = .ok (.iload 6, 2) := by decide +kernel
theorem d_Pa_darkIn_74 : decode c_yPa_darkIn 74 = .ok (.invokestatic 50, 3) := by decide +kernel
theorem d_Pa_darkIn_77 : decode c_yPa_darkIn 77 = .ok (.lstore 11, 2) := by decide +kernel
theorem d_Pa_darkIn_79 : decode c_yPa_darkIn 79 = .ok (.iload 7, 2) := by decide +kernel
theorem d_Pa_darkIn_81 : decode c_yPa_darkIn 81 = .ok (.istore 13, 2) := by decide +kernel
theorem d_Pa_darkIn_83 : decode c_yPa_darkIn 83 = .ok (.iload 13, 2) := by decide +kernel
theorem d_Pa_darkIn_85 : decode c_yPa_darkIn 85 = .ok (.iload 8, 2) := by decide +kernel
theorem d_Pa_darkIn_87 : decode c_yPa_darkIn 87 = .ok (.if_icmp .gt 33, 3) := by decide +kernel
theorem d_Pa_darkIn_90 : decode c_yPa_darkIn 90 = .ok (.iload 9, 2) := by decide +kernel
theorem d_Pa_darkIn_92 : decode c_yPa_darkIn 92 = .ok (.aload_n 0, 1) := by decide +kernel
theorem d_Pa_darkIn_93 : decode c_yPa_darkIn 93 = .ok (.getfield 21, 3) := by decide +kernel
theorem d_Pa_darkIn_96 : decode c_yPa_darkIn 96 = .ok (.iload 13, 2) := by decide +kernel
theorem d_Pa_darkIn_98 : decode c_yPa_darkIn 98 = .ok (.bipush 16, 2) := by decide +kernel
theorem d_Pa_darkIn_100 : decode c_yPa_darkIn 100 = .ok (.imul, 1) := by decide +kernel
theorem d_Pa_darkIn_101 : decode c_yPa_darkIn 101 = .ok (.iload 10, 2) := by decide +kernel
theorem d_Pa_darkIn_103 : decode c_yPa_darkIn 103 = .ok (.iadd, 1) := by decide +kernel
theorem d_Pa_darkIn_104 : decode c_yPa_darkIn 104 = .ok (.laload, 1) := by decide +kernel
theorem d_Pa_darkIn_105 : decode c_yPa_darkIn 105 = .ok (.lload 11, 2) := by decide +kernel
theorem d_Pa_darkIn_107 : decode c_yPa_darkIn 107 = .ok (.land, 1) := by decide +kernel
theorem d_Pa_darkIn_108 : decode c_yPa_darkIn 108 = .ok (.invokestatic 62, 3) := by decide +kernel
theorem d_Pa_darkIn_111 : decode c_yPa_darkIn 111 = .ok (.iadd, 1) := by decide +kernel
theorem d_Pa_darkIn_112 : decode c_yPa_darkIn 112 = .ok (.istore 9, 2) := by decide +kernel
theorem d_Pa_darkIn_114 : decode c_yPa_darkIn 114 = .ok (.iinc 13 1, 3) := by decide +kernel
theorem d_Pa_darkIn_117 : decode c_yPa_darkIn 117 = .ok (.goto (-34), 3) := by decide +kernel
theorem d_Pa_darkIn_120 : decode c_yPa_darkIn 120 = .ok (.iinc 10 1, 3) := by decide +kernel
theorem d_Pa_darkIn_123 : decode c_yPa_darkIn 123 = .ok (.goto (-65), 3) := by decide +kernel
theorem d_Pa_darkIn_126 : decode c_yPa_darkIn 126 = .ok (.iload 9, 2) := by decide +kernel
theorem d_Pa_darkIn_128 : decode c_yPa_darkIn 128 = .ok (.ireturn, 1) := by decide +kernel
set_option maxHeartbeats 4000000 in
set_option maxRecDepth 100000 in
theorem c_Paper_darkIn (l : Launch) (dC : Nat → ClassId) (dI : Nat → Nat → Nat) (hp hw hs hk : Nat) (cL : ClassId) (w h mn : Int) (G : Int → Int64) (pic : Int → Int → Bool) (lf tp rt bt : Int) (w1 : 1 ≤ w) (w2 : w ≤ 1024) (h1 : 1 ≤ h) (h2 : h ≤ 1024) (lf1 : -1073741824 ≤ lf) (tp1 : -1073741824 ≤ tp) (rt1 : -1073741824 ≤ rt) (bt1 : -1073741824 ≤ bt) (lf2 : lf ≤ 1073741824) (tp2 : tp ≤ 1073741824) (rt2 : rt ≤ 1073741824) (bt2 : bt ≤ 1073741824) (hR : Rep G pic) : Met l y_Pa_darkIn w_Pa_darkIn ({ frames := 2, cells := 0, slots := 0, locals := 45 }) (va_Pc [.ref hp, .int (iZ lf), .int (iZ tp), .int (iZ rt), .int (iZ bt)] (zPr (dC, dI) vwCl [(hp, .inr (2, [.int (iZ w), .int (iZ h), .int (iZ mn), .ref hw, .ref hs, .ref hk])), (hw, .inl (cL, 16384, .inr (.inl (aL G))))] [(cL, .long)])) (vp_Si (fun r => r = iZ (cnt w h (dkB pic lf tp rt bt)))) 0 0 (fun _ => False) := by
  refine Met.ofW (cc := c_yPa_darkIn) (maxL := 14) (ret := (some .int)) (by decide) rfl ?_
  intro p e s m args below meth c s₁ B hml hv
  obtain ⟨rfl, hP, hK⟩ := hv
  have hx := B.exec
  have hb := B.bytes
  have hr := B.returns
  have hts0 := atoms_spec (ws := w_Pa_darkIn) B.pre
  have hts : ∀ w ∈ gT, w.before _ s = true := fun w h => hts0 w (List.mem_cons_of_mem _ h)
  have hown : s.vm.findClass R_Pa = some m.cls := findClass_of_methodNamed B.named
  have hlocks := B.notSynchronized
  have hl := lv_entry ([.ref hp, .int (iZ lf), .int (iZ tp), .int (iZ rt), .int (iZ bt)]) (n := 14) (Nat.le_of_ble_eq_true rfl)
  rw [lg_entry_eq]
  generalize (lg_sl ([.ref hp, .int (iZ lf), .int (iZ tp), .int (iZ rt), .int (iZ bt)]) ++ List.replicate (14 - (lg_sl ([.ref hp, .int (iZ lf), .int (iZ tp), .int (iZ rt), .int (iZ bt)])).length) Slot.unset).toArray = ls at hl ⊢
  have hl : lv_has ls 14 [(0, .ref hp), (1, .int (iZ lf)), (2, .int (iZ tp)), (3, .int (iZ rt)), (4, .int (iZ bt))] := hl
  refine lv_iload_n hx hb d_Pa_darkIn_0 rfl (lv_at hl 1 rfl) ?_
  refine lv_iconst (v := iZ (0)) hx hb d_Pa_darkIn_1 rfl ?_
  refine vp_callSi (va_runS (As := [.int (iZ lf), .int (iZ 0)]) (rest := []) ⟨hx, hb, hml, hown, hts⟩ (c_Math_maxi l dC dI lf 0 (by first | omega | assumption) (by first | omega | assumption) (by first | omega | assumption) (by first | omega | assumption)) (va_cwS 2 hts (gS t_282 t_269 t_12 t_270) rfl rfl rfl (by decide +kernel) ⟨Nat.le_of_ble_eq_true rfl, Nat.le_of_ble_eq_true rfl⟩) ⟨zPr_blind, zPr_pre hP hK [] [] rfl rfl⟩ rfl rfl hl.1 rfl (lv_room (Nat.le_of_ble_eq_true rfl)) d_Pa_darkIn_2 ⟨Nat.le_of_ble_eq_true rfl, Nat.le_of_ble_eq_true rfl⟩).run (fun r_2 q_2 => ?_)
  obtain rfl := q_2
  refine zn_z (fun fi e_fi => ?_)
  refine lv_istore (lv' := [(5, .int (iZ fi)), (0, .ref hp), (1, .int (iZ lf)), (2, .int (iZ tp)), (3, .int (iZ rt)), (4, .int (iZ bt))]) hx hb d_Pa_darkIn_5 hl (by decide) rfl (fun ls hl => ?_)
  refine lv_iload_n hx hb d_Pa_darkIn_7 rfl (lv_at hl 4 rfl) ?_
  refine lv_aload_n hx hb d_Pa_darkIn_8 rfl (lv_at hl 1 rfl) ?_
  refine va_get (D := (dC, dI)) (ci := 2) (v := .int (iZ w)) (C := R_Pa) (T := T_Pa) (N := 6) hx hb hts wi_Pa hown hK hP 0 rfl rfl 0 (by decide) (hts _ t_33) (fun _ h9 => h9) rfl d_Pa_darkIn_9 ?_
  refine lv_iconst (v := iZ (1)) hx hb d_Pa_darkIn_12 rfl ?_
  refine zi_sub hx hb d_Pa_darkIn_13 ?_
  refine vp_callSi (va_runS (As := [.int (iZ rt), .int (iZ (w - 1))]) (rest := []) ⟨hx, hb, hml, hown, hts⟩ (c_Math_mini l dC dI rt (w - 1) (by first | omega | assumption) (by first | omega | assumption) (by first | omega | assumption) (by first | omega | assumption)) (va_cwS 2 hts (gS t_283 t_272 t_12 t_273) rfl rfl rfl (by decide +kernel) ⟨Nat.le_of_ble_eq_true rfl, Nat.le_of_ble_eq_true rfl⟩) ⟨zPr_blind, zPr_pre hP hK [] [] rfl rfl⟩ rfl rfl hl.1 rfl (lv_room (Nat.le_of_ble_eq_true rfl)) d_Pa_darkIn_14 ⟨Nat.le_of_ble_eq_true rfl, Nat.le_of_ble_eq_true rfl⟩).run (fun r_14 q_14 => ?_)
  obtain rfl := q_14
  refine zn_z (fun la e_la => ?_)
  refine lv_istore (lv' := [(6, .int (iZ la)), (5, .int (iZ fi)), (0, .ref hp), (1, .int (iZ lf)), (2, .int (iZ tp)), (3, .int (iZ rt)), (4, .int (iZ bt))]) hx hb d_Pa_darkIn_17 hl (by decide) rfl (fun ls hl => ?_)
  refine lv_iload_n hx hb d_Pa_darkIn_19 rfl (lv_at hl 4 rfl) ?_
  refine lv_iconst (v := iZ (0)) hx hb d_Pa_darkIn_20 rfl ?_
  refine vp_callSi (va_runS (As := [.int (iZ tp), .int (iZ 0)]) (rest := []) ⟨hx, hb, hml, hown, hts⟩ (c_Math_maxi l dC dI tp 0 (by first | omega | assumption) (by first | omega | assumption) (by first | omega | assumption) (by first | omega | assumption)) (va_cwS 2 hts (gS t_282 t_269 t_12 t_270) rfl rfl rfl (by decide +kernel) ⟨Nat.le_of_ble_eq_true rfl, Nat.le_of_ble_eq_true rfl⟩) ⟨zPr_blind, zPr_pre hP hK [] [] rfl rfl⟩ rfl rfl hl.1 rfl (lv_room (Nat.le_of_ble_eq_true rfl)) d_Pa_darkIn_21 ⟨Nat.le_of_ble_eq_true rfl, Nat.le_of_ble_eq_true rfl⟩).run (fun r_21 q_21 => ?_)
  obtain rfl := q_21
  refine zn_z (fun fr e_fr => ?_)
  refine lv_istore (lv' := [(7, .int (iZ fr)), (6, .int (iZ la)), (5, .int (iZ fi)), (0, .ref hp), (1, .int (iZ lf)), (2, .int (iZ tp)), (3, .int (iZ rt)), (4, .int (iZ bt))]) hx hb d_Pa_darkIn_24 hl (by decide) rfl (fun ls hl => ?_)
  refine lv_iload hx hb d_Pa_darkIn_26 (lv_at hl 7 rfl) ?_
  refine lv_aload_n hx hb d_Pa_darkIn_28 rfl (lv_at hl 3 rfl) ?_
  refine va_get (D := (dC, dI)) (ci := 2) (v := .int (iZ h)) (C := R_Pa) (T := T_Pa) (N := 6) hx hb hts wi_Pa hown hK hP 0 rfl rfl 1 (by decide) (hts _ t_35) (fun _ h9 => h9) rfl d_Pa_darkIn_29 ?_
  refine lv_iconst (v := iZ (1)) hx hb d_Pa_darkIn_32 rfl ?_
  refine zi_sub hx hb d_Pa_darkIn_33 ?_
  refine vp_callSi (va_runS (As := [.int (iZ bt), .int (iZ (h - 1))]) (rest := []) ⟨hx, hb, hml, hown, hts⟩ (c_Math_mini l dC dI bt (h - 1) (by first | omega | assumption) (by first | omega | assumption) (by first | omega | assumption) (by first | omega | assumption)) (va_cwS 2 hts (gS t_283 t_272 t_12 t_273) rfl rfl rfl (by decide +kernel) ⟨Nat.le_of_ble_eq_true rfl, Nat.le_of_ble_eq_true rfl⟩) ⟨zPr_blind, zPr_pre hP hK [] [] rfl rfl⟩ rfl rfl hl.1 rfl (lv_room (Nat.le_of_ble_eq_true rfl)) d_Pa_darkIn_34 ⟨Nat.le_of_ble_eq_true rfl, Nat.le_of_ble_eq_true rfl⟩).run (fun r_34 q_34 => ?_)
  obtain rfl := q_34
  refine zn_z (fun lr e_lr => ?_)
  refine lv_istore (lv' := [(8, .int (iZ lr)), (7, .int (iZ fr)), (6, .int (iZ la)), (5, .int (iZ fi)), (0, .ref hp), (1, .int (iZ lf)), (2, .int (iZ tp)), (3, .int (iZ rt)), (4, .int (iZ bt))]) hx hb d_Pa_darkIn_37 hl (by decide) rfl (fun ls hl => ?_)
  refine lv_iload hx hb d_Pa_darkIn_39 (lv_at hl 3 rfl) ?_
  refine lv_iload hx hb d_Pa_darkIn_41 (lv_at hl 2 rfl) ?_
  refine zi_le (tgt := 48) hx hb d_Pa_darkIn_43 (by decide) (by omega) (by omega) (by omega) (by omega) (fun c_43 => ?_) (fun c_43 => ?_)
  · refine lv_iconst (v := iZ (0)) hx hb d_Pa_darkIn_48 rfl ?_
    refine lv_istore (lv' := [(9, .int (iZ 0)), (8, .int (iZ lr)), (7, .int (iZ fr)), (6, .int (iZ la)), (5, .int (iZ fi)), (0, .ref hp), (1, .int (iZ lf)), (2, .int (iZ tp)), (3, .int (iZ rt)), (4, .int (iZ bt))]) hx hb d_Pa_darkIn_49 hl (by decide) rfl (fun ls hl => ?_)
    refine lv_iload hx hb d_Pa_darkIn_51 (lv_at hl 4 rfl) ?_
    refine lv_bipush (v := iZ (64)) hx hb d_Pa_darkIn_53 (by decide) ?_
    refine zi_div hx hb d_Pa_darkIn_55 (by omega) (by omega) (by omega) (by omega) ?_
    refine zn_z (fun k0 e_k0 => ?_)
    refine lv_istore (lv' := [(10, .int (iZ k0)), (9, .int (iZ 0)), (8, .int (iZ lr)), (7, .int (iZ fr)), (6, .int (iZ la)), (5, .int (iZ fi)), (0, .ref hp), (1, .int (iZ lf)), (2, .int (iZ tp)), (3, .int (iZ rt)), (4, .int (iZ bt))]) hx hb d_Pa_darkIn_56 hl (by decide) rfl (fun ls hl => ?_)
    have LP_58 : ∀ (n_58 : Nat) (col : Int) (dn : Int), (fi / 64 ≤ col) → (col ≤ 16) → (dn = cnt w h (fun x y => bxP fi la fr lr col fr x y && pic x y)) → (16 - col).toNat < n_58 → ∀ (ls : Array Slot), lv_has ls 14 [(0, .ref hp), (5, .int (iZ fi)), (6, .int (iZ la)), (7, .int (iZ fr)), (8, .int (iZ lr)), (9, .int (iZ dn)), (10, .int (iZ col))] → W p l e ({ frames := 2, cells := 0, slots := 0, locals := 45 } : Room) s m ([.ref hp, .int (iZ lf), .int (iZ tp), .int (iZ rt), .int (iZ bt)] : List Value).toArray below meth c s.heap [] 0 0 (MQ below (vp_Si (fun r => r = iZ (cnt w h (dkB pic lf tp rt bt)))) ([.ref hp, .int (iZ lf), .int (iZ tp), .int (iZ rt), .int (iZ bt)] : List Value).toArray s 0 0 (fun _ => False)) (F0 m 58 ls []) := by
      intro n_58
      induction n_58 with
      | zero => intro col dn i1 i2 i3 hm; exact absurd hm (by omega)
      | succ n_58 ih_58 =>
        intro col dn i1 i2 i3 hm_58 ls hl
        refine lv_iload hx hb d_Pa_darkIn_58 (lv_at hl 6 rfl) ?_
        refine lv_iload hx hb d_Pa_darkIn_60 (lv_at hl 2 rfl) ?_
        refine lv_bipush (v := iZ (64)) hx hb d_Pa_darkIn_62 (by decide) ?_
        refine zi_div hx hb d_Pa_darkIn_64 (by omega) (by omega) (by omega) (by omega) ?_
        refine zi_gt (tgt := 126) hx hb d_Pa_darkIn_65 (by decide) (by omega) (by omega) (by omega) (by omega) (fun c_65 => ?_) (fun c_65 => ?_)
        · refine lv_iload hx hb d_Pa_darkIn_126 (lv_at hl 5 rfl) ?_
          exact W.iret hx hb hr (fun t ht hW => ⟨_, rfl, congrArg iZ (dk_fin (r := rt) (col := col) (fr := fr) (by omega) (by rw [← e_la, ← e_fi, ← e_lr, ← e_fr]; exact i3)), ht⟩) (fun q h => nomatch h) d_Pa_darkIn_128
        · refine lv_iload hx hb d_Pa_darkIn_68 (lv_at hl 6 rfl) ?_
          refine lv_iload hx hb d_Pa_darkIn_70 (lv_at hl 1 rfl) ?_
          refine lv_iload hx hb d_Pa_darkIn_72 (lv_at hl 2 rfl) ?_
          refine vp_callSl (va_runS (As := [.int (iZ col), .int (iZ fi), .int (iZ la)]) (rest := []) ⟨hx, hb, hml, hown, hts⟩ (c_Paper_maskOf l dC dI col fi la (by first | omega | assumption) (by first | omega | assumption) (by first | omega | assumption) (by first | omega | assumption) (by first | omega | assumption) (by first | omega | assumption) (by first | omega | assumption) (by first | omega | assumption)) (va_cwS 3 hts (gS t_284 t_285 t_2 t_286) rfl rfl rfl (by decide +kernel) ⟨Nat.le_of_ble_eq_true rfl, Nat.le_of_ble_eq_true rfl⟩) ⟨zPr_blind, zPr_pre hP hK [] [] rfl rfl⟩ rfl rfl hl.1 rfl (lv_room (Nat.le_of_ble_eq_true rfl)) d_Pa_darkIn_74 ⟨Nat.le_of_ble_eq_true rfl, Nat.le_of_ble_eq_true rfl⟩).run (fun r_74 q_74 => ?_)
          refine lv_lstore (lv' := [(11, .long r_74), (0, .ref hp), (5, .int (iZ fi)), (6, .int (iZ la)), (7, .int (iZ fr)), (8, .int (iZ lr)), (9, .int (iZ dn)), (10, .int (iZ col))]) hx hb d_Pa_darkIn_77 hl (by decide) rfl (fun ls hl => ?_)
          refine lv_iload hx hb d_Pa_darkIn_79 (lv_at hl 4 rfl) ?_
          refine lv_istore (lv' := [(13, .int (iZ fr)), (11, .long r_74), (0, .ref hp), (5, .int (iZ fi)), (6, .int (iZ la)), (7, .int (iZ fr)), (8, .int (iZ lr)), (9, .int (iZ dn)), (10, .int (iZ col))]) hx hb d_Pa_darkIn_81 hl (by decide) rfl (fun ls hl => ?_)
          have LP_83 : ∀ (n_83 : Nat) (row : Int) (dm : Int), (fr ≤ row) → (row ≤ lr + 1 ∨ row = fr) → (dm = cnt w h (fun x y => bxP fi la fr lr col row x y && pic x y)) → (lr + 1 - row).toNat < n_83 → ∀ (ls : Array Slot), lv_has ls 14 [(0, .ref hp), (5, .int (iZ fi)), (6, .int (iZ la)), (7, .int (iZ fr)), (8, .int (iZ lr)), (9, .int (iZ dm)), (10, .int (iZ col)), (11, .long r_74), (13, .int (iZ row))] → W p l e ({ frames := 2, cells := 0, slots := 0, locals := 45 } : Room) s m ([.ref hp, .int (iZ lf), .int (iZ tp), .int (iZ rt), .int (iZ bt)] : List Value).toArray below meth c s.heap [] 0 0 (MQ below (vp_Si (fun r => r = iZ (cnt w h (dkB pic lf tp rt bt)))) ([.ref hp, .int (iZ lf), .int (iZ tp), .int (iZ rt), .int (iZ bt)] : List Value).toArray s 0 0 (fun _ => False)) (F0 m 83 ls []) := by
            intro n_83
            induction n_83 with
            | zero => intro row dm j1 j2 j3 hm; exact absurd hm (by omega)
            | succ n_83 ih_83 =>
              intro row dm j1 j2 j3 hm_83 ls hl
              have j4 := cnt_in (fun x y => bxP fi la fr lr col row x y && pic x y) (show 0 ≤ w by omega) w2 (show 0 ≤ h by omega) h2
              rw [← j3] at j4
              refine lv_iload hx hb d_Pa_darkIn_83 (lv_at hl 8 rfl) ?_
              refine lv_iload hx hb d_Pa_darkIn_85 (lv_at hl 4 rfl) ?_
              refine zi_gt (tgt := 120) hx hb d_Pa_darkIn_87 (by decide) (by omega) (by omega) (by omega) (by omega) (fun c_87 => ?_) (fun c_87 => ?_)
              · refine lv_iinc (v := iZ (col + 1)) (lv' := [(10, .int (iZ (col + 1))), (0, .ref hp), (5, .int (iZ fi)), (6, .int (iZ la)), (7, .int (iZ fr)), (8, .int (iZ lr)), (9, .int (iZ dm)), (11, .long r_74), (13, .int (iZ row))]) hx hb d_Pa_darkIn_120 hl (k := 6) rfl (iZ_add _ _) (by decide) rfl (fun ls hl => ?_)
                refine lv_goto (tgt := 58) hx hb d_Pa_darkIn_123 (by decide) ?_
                exact ih_58 (col + 1) dm (by omega) (by omega) (by rw [j3]; exact cnt_ext (fun x y _ _ _ _ => by rw [bxP_col (by omega)])) (by omega) ls (lv_sub hl [1, 2, 3, 4, 5, 6, 0] rfl)
              · refine lv_iload hx hb d_Pa_darkIn_90 (lv_at hl 5 rfl) ?_
                refine lv_aload_n hx hb d_Pa_darkIn_92 rfl (lv_at hl 0 rfl) ?_
                refine va_get (D := (dC, dI)) (ci := 2) (v := .ref hw) (C := R_Pa) (T := T_Pa) (N := 6) hx hb hts wi_Pa hown hK hP 0 rfl rfl 3 (by decide) (hts _ t_39) (fun _ h9 => h9) rfl d_Pa_darkIn_93 ?_
                refine lv_iload hx hb d_Pa_darkIn_96 (lv_at hl 8 rfl) ?_
                refine lv_bipush (v := iZ (16)) hx hb d_Pa_darkIn_98 (by decide) ?_
                refine zi_mul hx hb d_Pa_darkIn_100 ?_
                refine lv_iload hx hb d_Pa_darkIn_101 (lv_at hl 6 rfl) ?_
                refine zi_add hx hb d_Pa_darkIn_103 ?_
                refine z_lald hx hb hK hP 1 0 rfl rfl (by omega) (by omega) (by omega) d_Pa_darkIn_104 ?_
                refine lv_lload hx hb d_Pa_darkIn_105 (lv_at hl 7 rfl) ?_
                refine lv_land hx hb d_Pa_darkIn_107 ?_
                refine vp_callSi (va_runS (As := [.long ((G ((row * 16) + col)) &&& r_74)]) (rest := [.int (iZ dm)]) ⟨hx, hb, hml, hown, hts⟩ (c_Long_bc l dC dI ((G ((row * 16) + col)) &&& r_74) ) (va_cwS 1 hts (gS t_626 t_627 t_17 t_628) rfl rfl rfl (by decide +kernel) ⟨Nat.le_of_ble_eq_true rfl, Nat.le_of_ble_eq_true rfl⟩) ⟨zPr_blind, zPr_pre hP hK [] [] rfl rfl⟩ rfl rfl hl.1 rfl (lv_room (Nat.le_of_ble_eq_true rfl)) d_Pa_darkIn_108 ⟨Nat.le_of_ble_eq_true rfl, Nat.le_of_ble_eq_true rfl⟩).run (fun r_108 q_108 => ?_)
                obtain rfl := q_108
                refine zi_add hx hb d_Pa_darkIn_111 ?_
                refine zn_z (fun v9_112 e_v9_112 => ?_)
                refine lv_istore (lv' := [(9, .int (iZ v9_112)), (0, .ref hp), (5, .int (iZ fi)), (6, .int (iZ la)), (7, .int (iZ fr)), (8, .int (iZ lr)), (10, .int (iZ col)), (11, .long r_74), (13, .int (iZ row))]) hx hb d_Pa_darkIn_112 hl (by decide) rfl (fun ls hl => ?_)
                refine lv_iinc (v := iZ (row + 1)) (lv' := [(13, .int (iZ (row + 1))), (9, .int (iZ v9_112)), (0, .ref hp), (5, .int (iZ fi)), (6, .int (iZ la)), (7, .int (iZ fr)), (8, .int (iZ lr)), (10, .int (iZ col)), (11, .long r_74)]) hx hb d_Pa_darkIn_114 hl (k := 8) rfl (iZ_add _ _) (by decide) rfl (fun ls hl => ?_)
                refine lv_goto (tgt := 83) hx hb d_Pa_darkIn_117 (by decide) ?_
                exact ih_83 (row + 1) v9_112 (by omega) (by omega) (by rw [e_v9_112]; exact dk_row hR w2 h2 (by omega) (by omega) (by omega) (by omega) (by omega) (by omega) j1 (by omega) q_74 j3) (by omega) ls (lv_sub hl [2, 3, 4, 5, 6, 1, 7, 8, 0] rfl)
          exact LP_83 _ fr dn (by omega) (by omega) (i3) (Nat.lt_succ_self _) ls (lv_sub hl [2, 3, 4, 5, 6, 7, 8, 1, 0] rfl)
    exact LP_58 _ k0 0 (by omega) (by omega) (by rw [cnt_no]; exact fun x y _ _ _ _ => by rw [bxP_0 e_k0 rfl, Bool.false_and]) (Nat.lt_succ_self _) ls (lv_sub hl [6, 5, 4, 3, 2, 1, 0] rfl)
  · refine lv_iconst (v := iZ (0)) hx hb d_Pa_darkIn_46 rfl ?_
    exact W.iret hx hb hr (fun t ht hW => ⟨_, rfl, congrArg iZ (dk_none (by omega)), ht⟩) (fun q h => nomatch h) d_Pa_darkIn_47
theorem d_D_count_0 : decode c_yD_count 0 = .ok (.iload_n 1, 1) := by decide +kernel
theorem d_D_count_1 : decode c_yD_count 1 = .ok (.iload_n 2, 1) := by decide +kernel
theorem d_D_count_2 : decode c_yD_count 2 = .ok (.iload_n 3, 1) := by decide +kernel
theorem d_D_count_3 : decode c_yD_count 3 = .ok (.iload 4, 2) := by decide +kernel
theorem d_D_count_5 : decode c_yD_count 5 = .ok (.invokestatic 62, 3) := by decide +kernel
theorem d_D_count_8 : decode c_yD_count 8 = .ok (.aload_n 0, 1) := by decide +kernel
theorem d_D_count_9 : decode c_yD_count 9 = .ok (.getfield 10, 3) := by decide +kernel
theorem d_D_count_12 : decode c_yD_count 12 = .ok (.iload_n 1, 1) := by decide +kernel
theorem d_D_count_13 : decode c_yD_count 13 = .ok (.iload_n 2, 1) := by decide +kernel
theorem d_D_count_14 : decode c_yD_count 14 = .ok (.iload_n 1, 1) := by decide +kernel
theorem d_D_count_15 : decode c_yD_count 15 = .ok (.iload_n 3, 1) := by decide +kernel
theorem d_D_count_16 : decode c_yD_count 16 = .ok (.iadd, 1) := by decide +kernel
theorem d_D_count_17 : decode c_yD_count 17 = .ok (.iconst 1, 1) := by decide +kernel
theorem d_D_count_18 : decode c_yD_count 18 = .ok (.isub, 1) := by decide +kernel
theorem d_D_count_19 : decode c_yD_count 19 = .ok (.iload_n 2, 1) := by decide +kernel
theorem d_D_count_20 : decode c_yD_count 20 = .ok (.iload 4, 2) := by decide +kernel
theorem d_D_count_22 : decode c_yD_count 22 = .ok (.iadd, 1) := by decide +kernel
theorem d_D_count_23 : decode c_yD_count 23 = .ok (.iconst 1, 1) := by decide +kernel
theorem d_D_count_24 : decode c_yD_count 24 = .ok (.isub, 1) := by decide +kernel
theorem d_D_count_25 : decode c_yD_count 25 = .ok (.invokevirtual 194, 3) := by decide +kernel
theorem d_D_count_28 : decode c_yD_count 28 = .ok (.ireturn, 1) := by decide +kernel
set_option maxHeartbeats 4000000 in
set_option maxRecDepth 100000 in
theorem c_DotSheet_count (l : Launch) (hnt : l.stackTraces = false) (dC : Nat → ClassId) (dI : Nat → Nat → Nat) (sa : Nat → Nat) (hx_ hst hd hfa hp hw hs hk : Nat) (cL : ClassId) (w h mn : Int) (G : Int → Int64) (pic : Int → Int → Bool) (x y bw bh : Int) (sz : Nat) (w1 : 1 ≤ w) (w2 : w ≤ 1024) (h1 : 1 ≤ h) (h2 : h ≤ 1024) (hR : Rep G pic) (x1 : -2147483648 ≤ x) (y1 : -2147483648 ≤ y) (bw1 : -2147483648 ≤ bw) (bh1 : -2147483648 ≤ bh) (x2 : x ≤ 2147483647) (y2 : y ≤ 2147483647) (bw2 : bw ≤ 2147483647) (bh2 : bh ≤ 2147483647) : vx_Met l y_D_count w_D_count ({ frames := 8, cells := 1, slots := 6, locals := 143 }) (va_Pc [.ref hx_, .int (iZ x), .int (iZ y), .int (iZ bw), .int (iZ bh)] (zPx (dC, dI) vwCl [(hx_, .inr (4, [.ref hp, .ref hst, .ref hd, .ref hfa])), (hp, .inr (2, [.int (iZ w), .int (iZ h), .int (iZ mn), .ref hw, .ref hs, .ref hk])), (hw, .inl (cL, 16384, .inr (.inl (aL G))))] [(cL, .long)] sz sa)) (va_Qi (fun (r : Int32) (u : Unit) => r = iZ (cnt w h (dkB pic x y (x + bw - 1) (y + bh - 1))) ∧ (-4096 ≤ x ∧ x ≤ 4096 ∧ -4096 ≤ y ∧ y ≤ 4096 ∧ 1 ≤ bw ∧ bw ≤ 2048 ∧ 1 ≤ bh ∧ bh ≤ 2048)) (fun u => zB (dC, dI) vwCl [(cL, .long)] (va_A [(hx_, .inr (4, [.ref hp, .ref hst, .ref hd, .ref hfa])), (hp, .inr (2, [.int (iZ w), .int (iZ h), .int (iZ mn), .ref hw, .ref hs, .ref hk])), (hw, .inl (cL, 16384, .inr (.inl (aL G))))] sz) [(hx_, .inr (4, [.ref hp, .ref hst, .ref hd, .ref hfa])), (hp, .inr (2, [.int (iZ w), .int (iZ h), .int (iZ mn), .ref hw, .ref hs, .ref hk])), (hw, .inl (cL, 16384, .inr (.inl (aL G))))]) (va_A [(hx_, .inr (4, [.ref hp, .ref hst, .ref hd, .ref hfa])), (hp, .inr (2, [.int (iZ w), .int (iZ h), .int (iZ mn), .ref hw, .ref hs, .ref hk])), (hw, .inl (cL, 16384, .inr (.inl (aL G))))] sz)) (zX (fun E => E = "java/lang/IllegalArgumentException" ∧ ¬ (-4096 ≤ x ∧ x ≤ 4096 ∧ -4096 ≤ y ∧ y ≤ 4096 ∧ 1 ≤ bw ∧ bw ≤ 2048 ∧ 1 ≤ bh ∧ bh ≤ 2048)) (dC, dI) vwCl [(cL, .long)] (va_A [(hx_, .inr (4, [.ref hp, .ref hst, .ref hd, .ref hfa])), (hp, .inr (2, [.int (iZ w), .int (iZ h), .int (iZ mn), .ref hw, .ref hs, .ref hk])), (hw, .inl (cL, 16384, .inr (.inl (aL G))))] sz) [(hx_, .inr (4, [.ref hp, .ref hst, .ref hd, .ref hfa])), (hp, .inr (2, [.int (iZ w), .int (iZ h), .int (iZ mn), .ref hw, .ref hs, .ref hk])), (hw, .inl (cL, 16384, .inr (.inl (aL G))))]) 1 6 (va_A [(hx_, .inr (4, [.ref hp, .ref hst, .ref hd, .ref hfa])), (hp, .inr (2, [.int (iZ w), .int (iZ h), .int (iZ mn), .ref hw, .ref hs, .ref hk])), (hw, .inl (cL, 16384, .inr (.inl (aL G))))] sz) := by
  refine vx_ofW (cc := c_yD_count) (maxL := 5) (ret := (some .int)) (by decide) rfl ?_
  intro p e s m args below meth c s₁ B hml noEx hv
  obtain ⟨rfl, hsz, hP, hK, hD0, hXK⟩ := hv
  have hx := B.exec
  have hb := B.bytes
  have hr := B.returns
  have hts0 := atoms_spec (ws := w_D_count) B.pre
  have hts : ∀ w ∈ gT, w.before _ s = true := fun w h => hts0 w (List.mem_cons_of_mem _ h)
  have hown : s.vm.findClass R_D = some m.cls := findClass_of_methodNamed B.named
  have hlocks := B.notSynchronized
  subst hsz
  have hD := hD0.self (sz := s.heap.size)
  generalize hAe : va_A [(hx_, .inr (4, [.ref hp, .ref hst, .ref hd, .ref hfa])), (hp, .inr (2, [.int (iZ w), .int (iZ h), .int (iZ mn), .ref hw, .ref hs, .ref hk])), (hw, .inl (cL, 16384, .inr (.inl (aL G))))] s.heap.size = A at hD hXK ⊢
  have hA : ∀ q : Nat, s.heap.size ≤ q → A q := fun q h => by rw [← hAe]; exact Or.inr h
  obtain ⟨H, hH⟩ : ∃ H, s.heap = H := ⟨_, rfl⟩
  have hS : va_S A s.heap H [] := by rw [← hH]; exact va_S.rf
  rw [hH] at hP
  rw [hH]
  have hl := lv_entry ([.ref hx_, .int (iZ x), .int (iZ y), .int (iZ bw), .int (iZ bh)]) (n := 5) (Nat.le_of_ble_eq_true rfl)
  rw [lg_entry_eq]
  generalize (lg_sl ([.ref hx_, .int (iZ x), .int (iZ y), .int (iZ bw), .int (iZ bh)]) ++ List.replicate (5 - (lg_sl ([.ref hx_, .int (iZ x), .int (iZ y), .int (iZ bw), .int (iZ bh)])).length) Slot.unset).toArray = ls at hl ⊢
  have hl : lv_has ls 5 [(0, .ref hx_), (1, .int (iZ x)), (2, .int (iZ y)), (3, .int (iZ bw)), (4, .int (iZ bh))] := hl
  refine lv_iload_n hx hb d_D_count_0 rfl (lv_at hl 1 rfl) ?_
  refine lv_iload_n hx hb d_D_count_1 rfl (lv_at hl 2 rfl) ?_
  refine lv_iload_n hx hb d_D_count_2 rfl (lv_at hl 3 rfl) ?_
  refine lv_iload hx hb d_D_count_3 (lv_at hl 4 rfl) ?_
  refine zx_v (w1 := fun (u_5 : Unit) => []) (wr := [(hx_, .inr (4, [.ref hp, .ref hst, .ref hd, .ref hfa])), (hp, .inr (2, [.int (iZ w), .int (iZ h), .int (iZ mn), .ref hw, .ref hs, .ref hk])), (hw, .inl (cL, 16384, .inr (.inl (aL G))))]) (vx_runS (As := [.int (iZ x), .int (iZ y), .int (iZ bw), .int (iZ bh)]) (rest := []) ⟨hx, hb, hml, hown, hts⟩ (c_DotSheet_demandBox l hnt dC dI sa x y bw bh H.size (by first | omega | assumption) (by first | omega | assumption) (by first | omega | assumption) (by first | omega | assumption) (by first | omega | assumption) (by first | omega | assumption) (by first | omega | assumption) (by first | omega | assumption)) (va_cwS 4 hts (gS t_256 t_257 t_1 t_258) rfl rfl rfl (by decide +kernel) ⟨Nat.le_of_ble_eq_true rfl, Nat.le_of_ble_eq_true rfl⟩) ⟨zPx_blind, zPx_pre hP hD hK hXK hS hA [] [] rfl rfl rfl rfl⟩ rfl rfl hl.1 rfl (lv_room (Nat.le_of_ble_eq_true rfl)) d_D_count_5 ⟨Nat.le_of_ble_eq_true rfl, Nat.le_of_ble_eq_true rfl⟩) hP hD hS hA [] [0, 1, 2] rfl rfl rfl (by decide) (fun E_ ce_ q9_ H locs x_5 hP hD hS hce hcv hcl => ?_) (fun u_5 H locs q_5 hP hD hS => ?_)
  · have hP : va_P (dC, dI) vwCl [(hx_, .inr (4, [.ref hp, .ref hst, .ref hd, .ref hfa])), (hp, .inr (2, [.int (iZ w), .int (iZ h), .int (iZ mn), .ref hw, .ref hs, .ref hk])), (hw, .inl (cL, 16384, .inr (.inl (aL G))))] H := hP
    have hD : va_D A [(hx_, .inr (4, [.ref hp, .ref hst, .ref hd, .ref hfa])), (hp, .inr (2, [.int (iZ w), .int (iZ h), .int (iZ mn), .ref hw, .ref hs, .ref hk])), (hw, .inl (cL, 16384, .inr (.inl (aL G))))] := hD
    exact vx_out (fun x9 h9 => (noEx x9 h9).elim) hlocks hce hcv hcl (fun t ht ha => ⟨(), trivial, ⟨⟨x_5.1, by have z9 := x_5.2; omega⟩, by rw [ht]; exact hP, va_K.moved ha hK, hD⟩, hS.F ht⟩) hS.2.2 (Nat.le_of_ble_eq_true rfl) (Nat.le_of_ble_eq_true rfl)
  have hP : va_P (dC, dI) vwCl [(hx_, .inr (4, [.ref hp, .ref hst, .ref hd, .ref hfa])), (hp, .inr (2, [.int (iZ w), .int (iZ h), .int (iZ mn), .ref hw, .ref hs, .ref hk])), (hw, .inl (cL, 16384, .inr (.inl (aL G))))] H := hP
  have hD : va_D A [(hx_, .inr (4, [.ref hp, .ref hst, .ref hd, .ref hfa])), (hp, .inr (2, [.int (iZ w), .int (iZ h), .int (iZ mn), .ref hw, .ref hs, .ref hk])), (hw, .inl (cL, 16384, .inr (.inl (aL G))))] := hD
  refine lv_aload_n hx hb d_D_count_8 rfl (lv_at hl 0 rfl) ?_
  refine va_get (D := (dC, dI)) (ci := 4) (v := .ref hp) (C := R_D) (T := T_D) (N := 4) hx hb hts wi_D hown hK hP 0 rfl rfl 0 (by decide) (hts _ t_126) (fun _ h9 => h9) rfl d_D_count_9 ?_
  refine lv_iload_n hx hb d_D_count_12 rfl (lv_at hl 1 rfl) ?_
  refine lv_iload_n hx hb d_D_count_13 rfl (lv_at hl 2 rfl) ?_
  refine lv_iload_n hx hb d_D_count_14 rfl (lv_at hl 1 rfl) ?_
  refine lv_iload_n hx hb d_D_count_15 rfl (lv_at hl 3 rfl) ?_
  refine zi_add hx hb d_D_count_16 ?_
  refine lv_iconst (v := iZ (1)) hx hb d_D_count_17 rfl ?_
  refine zi_sub hx hb d_D_count_18 ?_
  refine lv_iload_n hx hb d_D_count_19 rfl (lv_at hl 2 rfl) ?_
  refine lv_iload hx hb d_D_count_20 (lv_at hl 4 rfl) ?_
  refine zi_add hx hb d_D_count_22 ?_
  refine lv_iconst (v := iZ (1)) hx hb d_D_count_23 rfl ?_
  refine zi_sub hx hb d_D_count_24 ?_
  refine vp_callSi (va_runV (As := [.int (iZ x), .int (iZ y), .int (iZ ((x + bw) - 1)), .int (iZ ((y + bh) - 1))]) (rest := []) ⟨hx, hb, hml, hown, hts⟩ (c_Paper_darkIn l dC dI hp hw hs hk cL w h mn G pic x y ((x + bw) - 1) ((y + bh) - 1) (by first | omega | assumption) (by first | omega | assumption) (by first | omega | assumption) (by first | omega | assumption) (by first | omega | assumption) (by first | omega | assumption) (by first | omega | assumption) (by first | omega | assumption) (by first | omega | assumption) (by first | omega | assumption) (by first | omega | assumption) (by first | omega | assumption) (by first | omega | assumption)) (cwV 4 hts (gV t_622 t_623 t_624 t_2 t_625) rfl rfl rfl (by decide +kernel) ⟨Nat.le_of_ble_eq_true rfl, Nat.le_of_ble_eq_true rfl⟩) ⟨zPr_blind, va_recv hK hP (ci := 2) (q0 := 1) rfl rfl, zPr_pre hP hK [1, 2] [0] rfl rfl⟩ rfl rfl hl.1 rfl (lv_room (Nat.le_of_ble_eq_true rfl)) d_D_count_25 ⟨Nat.le_of_ble_eq_true rfl, Nat.le_of_ble_eq_true rfl⟩).run (fun r_25 q_25 => ?_)
  obtain rfl := q_25
  refine vx_ret ?_
  exact W.iret hx hb hr (fun t ht hW => ⟨⟨_, (()), rfl, ⟨rfl, by omega⟩, by rw [ht]; exact hP, va_K.moved hW.alike hK, hD⟩, hS.F ht⟩) hS.2.2 d_D_count_28
theorem d_D_told_0 : decode c_yD_told 0 = .ok (.iload_n 1, 1) := by decide +kernel
theorem d_D_told_1 : decode c_yD_told 1 = .ok (.tableswitch 119 0 6 #[43, 51, 59, 67, 75, 83, 91], 43) := by decide +kernel
theorem d_D_told_44 : decode c_yD_told 44 = .ok (.aload_n 0, 1) := by decide +kernel
theorem d_D_told_45 : decode c_yD_told 45 = .ok (.getfield 10, 3) := by decide +kernel
theorem d_D_told_48 : decode c_yD_told 48 = .ok (.getfield 180, 3) := by decide +kernel
theorem d_D_told_51 : decode c_yD_told 51 = .ok (.ireturn, 1) := by decide +kernel
theorem d_D_told_52 : decode c_yD_told 52 = .ok (.aload_n 0, 1) := by decide +kernel
theorem d_D_told_53 : decode c_yD_told 53 = .ok (.getfield 10, 3) := by decide +kernel
theorem d_D_told_56 : decode c_yD_told 56 = .ok (.getfield 76, 3) := by decide +kernel
theorem d_D_told_59 : decode c_yD_told 59 = .ok (.ireturn, 1) := by decide +kernel
theorem d_D_told_60 : decode c_yD_told 60 = .ok (.aload_n 0, 1) := by decide +kernel
theorem d_D_told_61 : decode c_yD_told 61 = .ok (.getfield 10, 3) := by decide +kernel
theorem d_D_told_64 : decode c_yD_told 64 = .ok (.invokevirtual 181, 3) := by decide +kernel
theorem d_D_told_67 : decode c_yD_told 67 = .ok (.ireturn, 1) := by decide +kernel
theorem d_D_told_68 : decode c_yD_told 68 = .ok (.aload_n 0, 1) := by decide +kernel
theorem d_D_told_69 : decode c_yD_told 69 = .ok (.getfield 10, 3) := by decide +kernel
theorem d_D_told_72 : decode c_yD_told 72 = .ok (.invokevirtual 185, 3) := by decide +kernel
theorem d_D_told_75 : decode c_yD_told 75 = .ok (.ireturn, 1) := by decide +kernel
theorem d_D_told_76 : decode c_yD_told 76 = .ok (.aload_n 0, 1) := by decide +kernel
theorem d_D_told_77 : decode c_yD_told 77 = .ok (.getfield 10, 3) := by decide +kernel
theorem d_D_told_80 : decode c_yD_told 80 = .ok (.invokevirtual 188, 3) := by decide +kernel
theorem d_D_told_83 : decode c_yD_told 83 = .ok (.ireturn, 1) := by decide +kernel
theorem d_D_told_84 : decode c_yD_told 84 = .ok (.aload_n 0, 1) := by decide +kernel
theorem d_D_told_85 : decode c_yD_told 85 = .ok (.getfield 10, 3) := by decide +kernel
theorem d_D_told_88 : decode c_yD_told 88 = .ok (.invokevirtual 191, 3) := by decide +kernel
theorem d_D_told_91 : decode c_yD_told 91 = .ok (.ireturn, 1) := by decide +kernel
theorem d_D_told_92 : decode c_yD_told 92 = .ok (.aload_n 0, 1) := by decide +kernel
theorem d_D_told_93 : decode c_yD_told 93 = .ok (.getfield 10, 3) := by decide +kernel
theorem d_D_told_96 : decode c_yD_told 96 = .ok (.iconst 0, 1) := by decide +kernel
theorem d_D_told_97 : decode c_yD_told 97 = .ok (.iconst 0, 1) := by decide +kernel
theorem d_D_told_98 : decode c_yD_told 98 = .ok (.aload_n 0, 1) := by decide +kernel
theorem d_D_told_99 : decode c_yD_told 99 = .ok (.getfield 10, 3) := by decide +kernel
theorem d_D_told_102 : decode c_yD_told 102 = .ok (.getfield 180, 3) := by decide +kernel
theorem d_D_told_105 : decode c_yD_told 105 = .ok (.iconst 1, 1) := by decide +kernel
theorem d_D_told_106 : decode c_yD_told 106 = .ok (.isub, 1) := by decide +kernel
theorem d_D_told_107 : decode c_yD_told 107 = .ok (.aload_n 0, 1) := by decide +kernel
theorem d_D_told_108 : decode c_yD_told 108 = .ok (.getfield 10, 3) := by decide +kernel
theorem d_D_told_111 : decode c_yD_told 111 = .ok (.getfield 76, 3) := by decide +kernel
theorem d_D_told_114 : decode c_yD_told 114 = .ok (.iconst 1, 1) := by decide +kernel
theorem d_D_told_115 : decode c_yD_told 115 = .ok (.isub, 1) := by decide +kernel
theorem d_D_told_116 : decode c_yD_told 116 = .ok (.invokevirtual 194, 3) := by decide +kernel
theorem d_D_told_119 : decode c_yD_told 119 = .ok (.ireturn, 1) := by decide +kernel
theorem d_D_told_120 : decode c_yD_told 120 = .ok (.new 197, 3) := by decide +kernel
theorem d_D_told_123 : decode c_yD_told 123 = .ok (.dup, 1) := by decide +kernel
theorem d_D_told_124 : decode c_yD_told 124 = .ok (.ldc 199, 2) := by decide +kernel
theorem d_D_told_126 : decode c_yD_told 126 = .ok (.invokespecial 201, 3) := by decide +kernel
theorem d_D_told_129 : decode c_yD_told 129 = .ok (.athrow, 1) := by decide +kernel
set_option maxHeartbeats 4000000 in
set_option maxRecDepth 100000 in
theorem c_DotSheet_told (l : Launch) (hnt : l.stackTraces = false) (dC : Nat → ClassId) (dI : Nat → Nat → Nat) (sa : Nat → Nat) (hx_ hst hd hfa hp hw hs hk : Nat) (cL : ClassId) (w h mn : Int) (G : Int → Int64) (pic : Int → Int → Bool) (wh : Int) (sz : Nat) (w1 : 1 ≤ w) (w2 : w ≤ 1024) (h1 : 1 ≤ h) (h2 : h ≤ 1024) (hR : Rep G pic) (hO : Off w h pic) (wh1 : -2147483648 ≤ wh) (wh2 : wh ≤ 2147483647) : vx_Met l y_D_told w_D_told ({ frames := 7, cells := 1, slots := 6, locals := 120 }) (va_Pc [.ref hx_, .int (iZ wh)] (zPx (dC, dI) vwCl [(hx_, .inr (4, [.ref hp, .ref hst, .ref hd, .ref hfa])), (hp, .inr (2, [.int (iZ w), .int (iZ h), .int (iZ mn), .ref hw, .ref hs, .ref hk])), (hw, .inl (cL, 16384, .inr (.inl (aL G))))] [(cL, .long)] sz sa)) (va_Qi (fun (r : Int32) (u : Unit) => ∃ z : Int, r = iZ z ∧ 0 ≤ wh ∧ wh ≤ 6 ∧ tolS w h pic wh z) (fun u => zB (dC, dI) vwCl [(cL, .long)] (va_A [(hx_, .inr (4, [.ref hp, .ref hst, .ref hd, .ref hfa])), (hp, .inr (2, [.int (iZ w), .int (iZ h), .int (iZ mn), .ref hw, .ref hs, .ref hk])), (hw, .inl (cL, 16384, .inr (.inl (aL G))))] sz) [(hx_, .inr (4, [.ref hp, .ref hst, .ref hd, .ref hfa])), (hp, .inr (2, [.int (iZ w), .int (iZ h), .int (iZ mn), .ref hw, .ref hs, .ref hk])), (hw, .inl (cL, 16384, .inr (.inl (aL G))))]) (va_A [(hx_, .inr (4, [.ref hp, .ref hst, .ref hd, .ref hfa])), (hp, .inr (2, [.int (iZ w), .int (iZ h), .int (iZ mn), .ref hw, .ref hs, .ref hk])), (hw, .inl (cL, 16384, .inr (.inl (aL G))))] sz)) (zX (fun E => E = "java/lang/IllegalArgumentException" ∧ ¬ (0 ≤ wh ∧ wh ≤ 6)) (dC, dI) vwCl [(cL, .long)] (va_A [(hx_, .inr (4, [.ref hp, .ref hst, .ref hd, .ref hfa])), (hp, .inr (2, [.int (iZ w), .int (iZ h), .int (iZ mn), .ref hw, .ref hs, .ref hk])), (hw, .inl (cL, 16384, .inr (.inl (aL G))))] sz) [(hx_, .inr (4, [.ref hp, .ref hst, .ref hd, .ref hfa])), (hp, .inr (2, [.int (iZ w), .int (iZ h), .int (iZ mn), .ref hw, .ref hs, .ref hk])), (hw, .inl (cL, 16384, .inr (.inl (aL G))))]) 1 6 (va_A [(hx_, .inr (4, [.ref hp, .ref hst, .ref hd, .ref hfa])), (hp, .inr (2, [.int (iZ w), .int (iZ h), .int (iZ mn), .ref hw, .ref hs, .ref hk])), (hw, .inl (cL, 16384, .inr (.inl (aL G))))] sz) := by
  refine vx_ofW (cc := c_yD_told) (maxL := 2) (ret := (some .int)) (by decide) rfl ?_
  intro p e s m args below meth c s₁ B hml noEx hv
  obtain ⟨rfl, hsz, hP, hK, hD0, hXK⟩ := hv
  have hx := B.exec
  have hb := B.bytes
  have hr := B.returns
  have hts0 := atoms_spec (ws := w_D_told) B.pre
  have hts : ∀ w ∈ gT, w.before _ s = true := fun w h => hts0 w (List.mem_cons_of_mem _ h)
  have hown : s.vm.findClass R_D = some m.cls := findClass_of_methodNamed B.named
  have hlocks := B.notSynchronized
  subst hsz
  have hD := hD0.self (sz := s.heap.size)
  generalize hAe : va_A [(hx_, .inr (4, [.ref hp, .ref hst, .ref hd, .ref hfa])), (hp, .inr (2, [.int (iZ w), .int (iZ h), .int (iZ mn), .ref hw, .ref hs, .ref hk])), (hw, .inl (cL, 16384, .inr (.inl (aL G))))] s.heap.size = A at hD hXK ⊢
  have hA : ∀ q : Nat, s.heap.size ≤ q → A q := fun q h => by rw [← hAe]; exact Or.inr h
  obtain ⟨H, hH⟩ : ∃ H, s.heap = H := ⟨_, rfl⟩
  have hS : va_S A s.heap H [] := by rw [← hH]; exact va_S.rf
  rw [hH] at hP
  rw [hH]
  have hl := lv_entry ([.ref hx_, .int (iZ wh)]) (n := 2) (Nat.le_of_ble_eq_true rfl)
  rw [lg_entry_eq]
  generalize (lg_sl ([.ref hx_, .int (iZ wh)]) ++ List.replicate (2 - (lg_sl ([.ref hx_, .int (iZ wh)])).length) Slot.unset).toArray = ls at hl ⊢
  have hl : lv_has ls 2 [(0, .ref hx_), (1, .int (iZ wh))] := hl
  refine lv_iload_n hx hb d_D_told_0 rfl (lv_at hl 1 rfl) ?_
  by_cases s_1 : wh = 0
  · refine zt_in (tgt := 44) (k := 0) hx hb d_D_told_1 s_1 (by decide) (by decide) (by decide) (by decide) rfl (by decide) ?_
    refine lv_aload_n hx hb d_D_told_44 rfl (lv_at hl 0 rfl) ?_
    refine va_get (D := (dC, dI)) (ci := 4) (v := .ref hp) (C := R_D) (T := T_D) (N := 4) hx hb hts wi_D hown hK hP 0 rfl rfl 0 (by decide) (hts _ t_126) (fun _ h9 => h9) rfl d_D_told_45 ?_
    refine va_get (D := (dC, dI)) (ci := 2) (v := .int (iZ w)) (C := R_Pa) (T := T_Pa) (N := 6) hx hb hts wi_Pa hown hK hP 1 rfl rfl 0 (by decide) (hts _ t_34) (fun _ h9 => h9) rfl d_D_told_48 ?_
    refine vx_ret ?_
    refine W.widen (k := 1) (n := 6) (Nat.le_of_ble_eq_true rfl) (Nat.le_of_ble_eq_true rfl) ?_
    exact W.iret hx hb hr (fun t ht hW => ⟨⟨_, (()), rfl, ⟨_, rfl, by omega, by omega, fun _ => rfl, fun q9 => absurd q9 (by omega), fun q9 => absurd q9 (by omega), fun q9 => absurd q9 (by omega), fun q9 => absurd q9 (by omega), fun q9 => absurd q9 (by omega), fun q9 => absurd q9 (by omega)⟩, by rw [ht]; exact hP, va_K.moved hW.alike hK, hD⟩, hS.F ht⟩) hS.2.2 d_D_told_51
  have s_1_0 := s_1
  by_cases s_1 : wh = 1
  · refine zt_in (tgt := 52) (k := 1) hx hb d_D_told_1 s_1 (by decide) (by decide) (by decide) (by decide) rfl (by decide) ?_
    refine lv_aload_n hx hb d_D_told_52 rfl (lv_at hl 0 rfl) ?_
    refine va_get (D := (dC, dI)) (ci := 4) (v := .ref hp) (C := R_D) (T := T_D) (N := 4) hx hb hts wi_D hown hK hP 0 rfl rfl 0 (by decide) (hts _ t_126) (fun _ h9 => h9) rfl d_D_told_53 ?_
    refine va_get (D := (dC, dI)) (ci := 2) (v := .int (iZ h)) (C := R_Pa) (T := T_Pa) (N := 6) hx hb hts wi_Pa hown hK hP 1 rfl rfl 1 (by decide) (hts _ t_36) (fun _ h9 => h9) rfl d_D_told_56 ?_
    refine vx_ret ?_
    refine W.widen (k := 1) (n := 6) (Nat.le_of_ble_eq_true rfl) (Nat.le_of_ble_eq_true rfl) ?_
    exact W.iret hx hb hr (fun t ht hW => ⟨⟨_, (()), rfl, ⟨_, rfl, by omega, by omega, fun q9 => absurd q9 (by omega), fun _ => rfl, fun q9 => absurd q9 (by omega), fun q9 => absurd q9 (by omega), fun q9 => absurd q9 (by omega), fun q9 => absurd q9 (by omega), fun q9 => absurd q9 (by omega)⟩, by rw [ht]; exact hP, va_K.moved hW.alike hK, hD⟩, hS.F ht⟩) hS.2.2 d_D_told_59
  have s_1_1 := s_1
  by_cases s_1 : wh = 2
  · refine zt_in (tgt := 60) (k := 2) hx hb d_D_told_1 s_1 (by decide) (by decide) (by decide) (by decide) rfl (by decide) ?_
    refine lv_aload_n hx hb d_D_told_60 rfl (lv_at hl 0 rfl) ?_
    refine va_get (D := (dC, dI)) (ci := 4) (v := .ref hp) (C := R_D) (T := T_D) (N := 4) hx hb hts wi_D hown hK hP 0 rfl rfl 0 (by decide) (hts _ t_126) (fun _ h9 => h9) rfl d_D_told_61 ?_
    refine vp_callSi (va_runV (As := []) (rest := []) ⟨hx, hb, hml, hown, hts⟩ (c_Paper_leastX l dC dI hp hw hs hk cL w h mn G pic (by first | omega | assumption) (by first | omega | assumption) (by first | omega | assumption) (by first | omega | assumption) (by first | omega | assumption) (by first | omega | assumption)) (cwV 0 hts (gV t_585 t_586 t_587 t_2 t_588) rfl rfl rfl (by decide +kernel) ⟨Nat.le_of_ble_eq_true rfl, Nat.le_of_ble_eq_true rfl⟩) ⟨zPr_blind, va_recv hK hP (ci := 2) (q0 := 1) rfl rfl, zPr_pre hP hK [1, 2] [0] rfl rfl⟩ rfl rfl hl.1 rfl (lv_room (Nat.le_of_ble_eq_true rfl)) d_D_told_64 ⟨Nat.le_of_ble_eq_true rfl, Nat.le_of_ble_eq_true rfl⟩).run (fun r_64 q_64 => ?_)
    obtain ⟨k_64, rfl, q_64⟩ := q_64
    refine vx_ret ?_
    refine W.widen (k := 1) (n := 6) (Nat.le_of_ble_eq_true rfl) (Nat.le_of_ble_eq_true rfl) ?_
    exact W.iret hx hb hr (fun t ht hW => ⟨⟨_, (()), rfl, ⟨_, rfl, by omega, by omega, fun q9 => absurd q9 (by omega), fun q9 => absurd q9 (by omega), fun _ => q_64, fun q9 => absurd q9 (by omega), fun q9 => absurd q9 (by omega), fun q9 => absurd q9 (by omega), fun q9 => absurd q9 (by omega)⟩, by rw [ht]; exact hP, va_K.moved hW.alike hK, hD⟩, hS.F ht⟩) hS.2.2 d_D_told_67
  have s_1_2 := s_1
  by_cases s_1 : wh = 3
  · refine zt_in (tgt := 68) (k := 3) hx hb d_D_told_1 s_1 (by decide) (by decide) (by decide) (by decide) rfl (by decide) ?_
    refine lv_aload_n hx hb d_D_told_68 rfl (lv_at hl 0 rfl) ?_
    refine va_get (D := (dC, dI)) (ci := 4) (v := .ref hp) (C := R_D) (T := T_D) (N := 4) hx hb hts wi_D hown hK hP 0 rfl rfl 0 (by decide) (hts _ t_126) (fun _ h9 => h9) rfl d_D_told_69 ?_
    refine vp_callSi (va_runV (As := []) (rest := []) ⟨hx, hb, hml, hown, hts⟩ (c_Paper_leastY l dC dI hp hw hs hk cL w h mn G pic (by first | omega | assumption) (by first | omega | assumption) (by first | omega | assumption) (by first | omega | assumption) (by first | omega | assumption) (by first | omega | assumption)) (cwV 0 hts (gV t_600 t_601 t_602 t_2 t_603) rfl rfl rfl (by decide +kernel) ⟨Nat.le_of_ble_eq_true rfl, Nat.le_of_ble_eq_true rfl⟩) ⟨zPr_blind, va_recv hK hP (ci := 2) (q0 := 1) rfl rfl, zPr_pre hP hK [1, 2] [0] rfl rfl⟩ rfl rfl hl.1 rfl (lv_room (Nat.le_of_ble_eq_true rfl)) d_D_told_72 ⟨Nat.le_of_ble_eq_true rfl, Nat.le_of_ble_eq_true rfl⟩).run (fun r_72 q_72 => ?_)
    obtain ⟨k_72, rfl, q_72⟩ := q_72
    refine vx_ret ?_
    refine W.widen (k := 1) (n := 6) (Nat.le_of_ble_eq_true rfl) (Nat.le_of_ble_eq_true rfl) ?_
    exact W.iret hx hb hr (fun t ht hW => ⟨⟨_, (()), rfl, ⟨_, rfl, by omega, by omega, fun q9 => absurd q9 (by omega), fun q9 => absurd q9 (by omega), fun q9 => absurd q9 (by omega), fun _ => q_72, fun q9 => absurd q9 (by omega), fun q9 => absurd q9 (by omega), fun q9 => absurd q9 (by omega)⟩, by rw [ht]; exact hP, va_K.moved hW.alike hK, hD⟩, hS.F ht⟩) hS.2.2 d_D_told_75
  have s_1_3 := s_1
  by_cases s_1 : wh = 4
  · refine zt_in (tgt := 76) (k := 4) hx hb d_D_told_1 s_1 (by decide) (by decide) (by decide) (by decide) rfl (by decide) ?_
    refine lv_aload_n hx hb d_D_told_76 rfl (lv_at hl 0 rfl) ?_
    refine va_get (D := (dC, dI)) (ci := 4) (v := .ref hp) (C := R_D) (T := T_D) (N := 4) hx hb hts wi_D hown hK hP 0 rfl rfl 0 (by decide) (hts _ t_126) (fun _ h9 => h9) rfl d_D_told_77 ?_
    refine vp_callSi (va_runV (As := []) (rest := []) ⟨hx, hb, hml, hown, hts⟩ (c_Paper_greatestX l dC dI hp hw hs hk cL w h mn G pic (by first | omega | assumption) (by first | omega | assumption) (by first | omega | assumption) (by first | omega | assumption) (by first | omega | assumption) (by first | omega | assumption)) (cwV 0 hts (gV t_608 t_609 t_610 t_2 t_611) rfl rfl rfl (by decide +kernel) ⟨Nat.le_of_ble_eq_true rfl, Nat.le_of_ble_eq_true rfl⟩) ⟨zPr_blind, va_recv hK hP (ci := 2) (q0 := 1) rfl rfl, zPr_pre hP hK [1, 2] [0] rfl rfl⟩ rfl rfl hl.1 rfl (lv_room (Nat.le_of_ble_eq_true rfl)) d_D_told_80 ⟨Nat.le_of_ble_eq_true rfl, Nat.le_of_ble_eq_true rfl⟩).run (fun r_80 q_80 => ?_)
    obtain ⟨k_80, rfl, q_80⟩ := q_80
    refine vx_ret ?_
    refine W.widen (k := 1) (n := 6) (Nat.le_of_ble_eq_true rfl) (Nat.le_of_ble_eq_true rfl) ?_
    exact W.iret hx hb hr (fun t ht hW => ⟨⟨_, (()), rfl, ⟨_, rfl, by omega, by omega, fun q9 => absurd q9 (by omega), fun q9 => absurd q9 (by omega), fun q9 => absurd q9 (by omega), fun q9 => absurd q9 (by omega), fun _ => q_80, fun q9 => absurd q9 (by omega), fun q9 => absurd q9 (by omega)⟩, by rw [ht]; exact hP, va_K.moved hW.alike hK, hD⟩, hS.F ht⟩) hS.2.2 d_D_told_83
  have s_1_4 := s_1
  by_cases s_1 : wh = 5
  · refine zt_in (tgt := 84) (k := 5) hx hb d_D_told_1 s_1 (by decide) (by decide) (by decide) (by decide) rfl (by decide) ?_
    refine lv_aload_n hx hb d_D_told_84 rfl (lv_at hl 0 rfl) ?_
    refine va_get (D := (dC, dI)) (ci := 4) (v := .ref hp) (C := R_D) (T := T_D) (N := 4) hx hb hts wi_D hown hK hP 0 rfl rfl 0 (by decide) (hts _ t_126) (fun _ h9 => h9) rfl d_D_told_85 ?_
    refine vp_callSi (va_runV (As := []) (rest := []) ⟨hx, hb, hml, hown, hts⟩ (c_Paper_greatestY l dC dI hp hw hs hk cL w h mn G pic (by first | omega | assumption) (by first | omega | assumption) (by first | omega | assumption) (by first | omega | assumption) (by first | omega | assumption) (by first | omega | assumption)) (cwV 0 hts (gV t_618 t_619 t_620 t_2 t_621) rfl rfl rfl (by decide +kernel) ⟨Nat.le_of_ble_eq_true rfl, Nat.le_of_ble_eq_true rfl⟩) ⟨zPr_blind, va_recv hK hP (ci := 2) (q0 := 1) rfl rfl, zPr_pre hP hK [1, 2] [0] rfl rfl⟩ rfl rfl hl.1 rfl (lv_room (Nat.le_of_ble_eq_true rfl)) d_D_told_88 ⟨Nat.le_of_ble_eq_true rfl, Nat.le_of_ble_eq_true rfl⟩).run (fun r_88 q_88 => ?_)
    obtain ⟨k_88, rfl, q_88⟩ := q_88
    refine vx_ret ?_
    refine W.widen (k := 1) (n := 6) (Nat.le_of_ble_eq_true rfl) (Nat.le_of_ble_eq_true rfl) ?_
    exact W.iret hx hb hr (fun t ht hW => ⟨⟨_, (()), rfl, ⟨_, rfl, by omega, by omega, fun q9 => absurd q9 (by omega), fun q9 => absurd q9 (by omega), fun q9 => absurd q9 (by omega), fun q9 => absurd q9 (by omega), fun q9 => absurd q9 (by omega), fun _ => q_88, fun q9 => absurd q9 (by omega)⟩, by rw [ht]; exact hP, va_K.moved hW.alike hK, hD⟩, hS.F ht⟩) hS.2.2 d_D_told_91
  have s_1_5 := s_1
  by_cases s_1 : wh = 6
  · refine zt_in (tgt := 92) (k := 6) hx hb d_D_told_1 s_1 (by decide) (by decide) (by decide) (by decide) rfl (by decide) ?_
    refine lv_aload_n hx hb d_D_told_92 rfl (lv_at hl 0 rfl) ?_
    refine va_get (D := (dC, dI)) (ci := 4) (v := .ref hp) (C := R_D) (T := T_D) (N := 4) hx hb hts wi_D hown hK hP 0 rfl rfl 0 (by decide) (hts _ t_126) (fun _ h9 => h9) rfl d_D_told_93 ?_
    refine lv_iconst (v := iZ (0)) hx hb d_D_told_96 rfl ?_
    refine lv_iconst (v := iZ (0)) hx hb d_D_told_97 rfl ?_
    refine lv_aload_n hx hb d_D_told_98 rfl (lv_at hl 0 rfl) ?_
    refine va_get (D := (dC, dI)) (ci := 4) (v := .ref hp) (C := R_D) (T := T_D) (N := 4) hx hb hts wi_D hown hK hP 0 rfl rfl 0 (by decide) (hts _ t_126) (fun _ h9 => h9) rfl d_D_told_99 ?_
    refine va_get (D := (dC, dI)) (ci := 2) (v := .int (iZ w)) (C := R_Pa) (T := T_Pa) (N := 6) hx hb hts wi_Pa hown hK hP 1 rfl rfl 0 (by decide) (hts _ t_34) (fun _ h9 => h9) rfl d_D_told_102 ?_
    refine lv_iconst (v := iZ (1)) hx hb d_D_told_105 rfl ?_
    refine zi_sub hx hb d_D_told_106 ?_
    refine lv_aload_n hx hb d_D_told_107 rfl (lv_at hl 0 rfl) ?_
    refine va_get (D := (dC, dI)) (ci := 4) (v := .ref hp) (C := R_D) (T := T_D) (N := 4) hx hb hts wi_D hown hK hP 0 rfl rfl 0 (by decide) (hts _ t_126) (fun _ h9 => h9) rfl d_D_told_108 ?_
    refine va_get (D := (dC, dI)) (ci := 2) (v := .int (iZ h)) (C := R_Pa) (T := T_Pa) (N := 6) hx hb hts wi_Pa hown hK hP 1 rfl rfl 1 (by decide) (hts _ t_36) (fun _ h9 => h9) rfl d_D_told_111 ?_
    refine lv_iconst (v := iZ (1)) hx hb d_D_told_114 rfl ?_
    refine zi_sub hx hb d_D_told_115 ?_
    refine vp_callSi (va_runV (As := [.int (iZ 0), .int (iZ 0), .int (iZ (w - 1)), .int (iZ (h - 1))]) (rest := []) ⟨hx, hb, hml, hown, hts⟩ (c_Paper_darkIn l dC dI hp hw hs hk cL w h mn G pic 0 0 (w - 1) (h - 1) (by first | omega | assumption) (by first | omega | assumption) (by first | omega | assumption) (by first | omega | assumption) (by first | omega | assumption) (by first | omega | assumption) (by first | omega | assumption) (by first | omega | assumption) (by first | omega | assumption) (by first | omega | assumption) (by first | omega | assumption) (by first | omega | assumption) (by first | omega | assumption)) (cwV 4 hts (gV t_622 t_623 t_624 t_2 t_625) rfl rfl rfl (by decide +kernel) ⟨Nat.le_of_ble_eq_true rfl, Nat.le_of_ble_eq_true rfl⟩) ⟨zPr_blind, va_recv hK hP (ci := 2) (q0 := 1) rfl rfl, zPr_pre hP hK [1, 2] [0] rfl rfl⟩ rfl rfl hl.1 rfl (lv_room (Nat.le_of_ble_eq_true rfl)) d_D_told_116 ⟨Nat.le_of_ble_eq_true rfl, Nat.le_of_ble_eq_true rfl⟩).run (fun r_116 q_116 => ?_)
    obtain rfl := q_116
    refine vx_ret ?_
    refine W.widen (k := 1) (n := 6) (Nat.le_of_ble_eq_true rfl) (Nat.le_of_ble_eq_true rfl) ?_
    exact W.iret hx hb hr (fun t ht hW => ⟨⟨_, (()), rfl, ⟨_, rfl, by omega, by omega, fun q9 => absurd q9 (by omega), fun q9 => absurd q9 (by omega), fun q9 => absurd q9 (by omega), fun q9 => absurd q9 (by omega), fun q9 => absurd q9 (by omega), fun q9 => absurd q9 (by omega), fun _ => rfl⟩, by rw [ht]; exact hP, va_K.moved hW.alike hK, hD⟩, hS.F ht⟩) hS.2.2 d_D_told_119
  have s_1_6 := s_1
  refine zt_out (tgt := 120) hx hb d_D_told_1 (by omega) (by omega) (by omega) (by decide) ?_
  exact vx_throwS (own := R_D) (cls := "java/lang/IllegalArgumentException") (text := "nothing of this kind is told") (names := ["java/lang/RuntimeException", "java/lang/Exception"]) (A := A) hx hb hnt hown rfl (by decide +kernel) (hts _ t_157) (hts _ t_10) (hXK.2.1 4 _ rfl) (vx_hat (fun w9 h9 => hts w9 (xg_201 w9 h9)) xb_201 (fun w9 h9 => va_Nw.use (xb_ot w9 h9) (hXK.1 w9 h9))) xo_201 hXK.2.2.1 hXK.2.2.2 hS (hl.1.trans hml.symm) d_D_told_120 d_D_told_123 d_D_told_124 d_D_told_126 d_D_told_129 (fun x9 h9 => (noEx x9 h9).elim) (Nat.lt_of_lt_of_le (Nat.lt_succ_self _) (Nat.le_of_ble_eq_true rfl)) (Nat.le_of_ble_eq_true rfl) (Nat.le_of_ble_eq_true rfl) (Nat.le_of_ble_eq_true rfl) hlocks (fun t ha hz hk => ⟨(), trivial, ⟨⟨rfl, by omega⟩, zX_P hP hk, va_K.moved ha hK, hD⟩, hS.trans hz hk⟩) hS.2.2 (Nat.le_of_ble_eq_true rfl) (Nat.le_of_ble_eq_true rfl)
