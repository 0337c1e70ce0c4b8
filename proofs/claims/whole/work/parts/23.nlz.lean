/-! leading and trailing zeros -/
def nlzS (a z : Int) : Prop := (a = 0 ∧ z = 32) ∨ (a < 0 ∧ z = 0) ∨ (0 < a ∧ ∃ m : Nat, (m : Int) = 31 - z ∧ m ≤ 30 ∧ 2 ^ m ≤ a ∧ a < 2 ^ (m + 1))
theorem nlz_fin {a i n : Int} (m : Nat) (P : Int) (hP : P = 2 ^ m) (hn : n = 31 - m) (hm : m + i / 2 ≤ 30) (h1 : P * i ≤ a) (h2 : a < P * (i + 1)) (i1 : 1 ≤ i) (i2 : i ≤ 3) : nlzS a (n - i / 2) := by
  have P0 : 0 < P := by rw [hP]; exact Int.pow_pos (by decide)
  refine Or.inr (Or.inr ?_)
  rcases (show i = 1 ∨ i = 2 ∨ i = 3 by omega) with rfl | rfl | rfl
  · exact ⟨by omega, m, by omega, by omega, by rw [← hP]; omega, by rw [Int.pow_succ, ← hP]; omega⟩
  · exact ⟨by omega, m + 1, by omega, by omega, by rw [Int.pow_succ, ← hP]; omega, by rw [Int.pow_succ, Int.pow_succ, ← hP]; omega⟩
  · exact ⟨by omega, m + 1, by omega, by omega, by rw [Int.pow_succ, ← hP]; omega, by rw [Int.pow_succ, Int.pow_succ, ← hP]; omega⟩
theorem top_bit {x m : Nat} (h1 : 2 ^ m ≤ x) (h2 : x < 2 ^ (m + 1)) : x.testBit m = true ∧ ∀ j, m < j → x.testBit j = false := by
  refine ⟨?_, fun j hj => Nat.testBit_lt_two_pow (Nat.lt_of_lt_of_le h2 (Nat.pow_le_pow_right (by decide) hj))⟩
  rw [Nat.testBit_eq_decide_div_mod_eq]
  have a : x / 2 ^ m = 1 := by
    apply Nat.div_eq_of_lt_le
    · omega
    · rw [Nat.pow_succ] at h2; omega
  rw [a]; rfl
theorem nlz_bit {w : Int32} {z : Int} (h : nlzS w.toInt z) (hw : w.toBitVec.toNat ≠ 0) : ∃ m : Nat, (m : Int) = 31 - z ∧ m ≤ 31 ∧ w.toBitVec.toNat.testBit m = true ∧ ∀ j, m < j → w.toBitVec.toNat.testBit j = false := by
  have e : w.toInt = if 2 * w.toBitVec.toNat < 2 ^ 32 then (w.toBitVec.toNat : Int) else (w.toBitVec.toNat : Int) - ((2 ^ 32 : Nat) : Int) := BitVec.toInt_eq_toNat_cond _
  have lt : w.toBitVec.toNat < 2 ^ 32 := w.toBitVec.isLt
  generalize w.toBitVec.toNat = W at *
  rcases h with ⟨a, b⟩ | ⟨a, b⟩ | ⟨a, m, b, c, d, f⟩
  · exfalso; split at e <;> omega
  · have : 2 ^ 31 ≤ W := by split at e <;> omega
    have t := top_bit (x := W) (m := 31) this lt
    exact ⟨31, by omega, by omega, t.1, t.2⟩
  · have eW : w.toInt = (W : Int) := by split at e <;> omega
    rw [eW] at d f
    have t := top_bit (x := W) (m := m) (by exact_mod_cast d) (by exact_mod_cast f)
    exact ⟨m, b, by omega, t.1, t.2⟩
def nlzL (v : Int64) (z : Int) : Prop := 0 ≤ z ∧ z < 64 ∧ bitZ v z = true ∧ ∀ k, 0 ≤ k → k < z → bitZ v k = false
theorem bz_tb (v : Int64) (k : Int) : bitZ v k = v.toBitVec.toNat.testBit (63 - k).toNat := by unfold bitZ; rw [BitVec.testBit_toNat]
theorem hi_N (v : Int64) : (((v.toUInt64 >>> ((iZ 32).toInt64.toUInt64 &&& Int64.toUInt64 63)).toInt64).toInt32).toBitVec.toNat = v.toBitVec.toNat / 4294967296 := by
  have a := un_shr v (k := 32) (by decide) (by decide)
  have lt : v.toBitVec.toNat < 2 ^ 64 := v.toBitVec.isLt
  show (BitVec.signExtend 32 ((v.toUInt64 >>> ((iZ 32).toInt64.toUInt64 &&& Int64.toUInt64 63)).toInt64).toBitVec).toNat = _
  rw [BitVec.signExtend_eq_setWidth_of_le _ (by decide), BitVec.toNat_setWidth, a]
  show v.toBitVec.toNat / 4294967296 % 4294967296 = _
  omega
theorem lo_N (v : Int64) : (v.toInt32).toBitVec.toNat = v.toBitVec.toNat % 4294967296 := by
  show (BitVec.signExtend 32 v.toBitVec).toNat = _
  rw [BitVec.signExtend_eq_setWidth_of_le _ (by decide), BitVec.toNat_setWidth]
theorem i32_0 {w : Int32} : w = 0 ↔ w.toBitVec.toNat = 0 := by
  constructor
  · rintro rfl; rfl
  · intro h; apply Int32.toBitVec_inj.mp; apply BitVec.eq_of_toNat_eq; rw [h]; rfl
theorem i64_0 {w : Int64} (h : w ≠ lZ 0) : w.toBitVec.toNat ≠ 0 := by
  intro z; apply h; apply Int64.toBitVec_inj.mp; apply BitVec.eq_of_toNat_eq; rw [z]; rfl
theorem nlz_hi {v : Int64} {w : Int32} {z : Int} (hw : w = ((v.toUInt64 >>> ((iZ 32).toInt64.toUInt64 &&& Int64.toUInt64 63)).toInt64).toInt32) (h0 : ¬ w = 0) (h : nlzS w.toInt z) : nlzL v z := by
  have e := hi_N v
  rw [← hw] at e
  obtain ⟨m, a, b, c, d⟩ := nlz_bit h (fun q => h0 (i32_0.mpr q))
  rw [e] at c d
  refine ⟨by omega, by omega, ?_, fun k k0 k1 => ?_⟩
  · rw [bz_tb, show (63 - z).toNat = m + 32 by omega, ← Nat.testBit_div_two_pow]; exact c
  · rw [bz_tb, show (63 - k).toNat = (31 - k).toNat + 32 by omega, ← Nat.testBit_div_two_pow]; exact d (31 - k).toNat (by omega)
theorem nlz_lo {v : Int64} {w : Int32} {z : Int} (hv : v ≠ lZ 0) (hw : w = ((v.toUInt64 >>> ((iZ 32).toInt64.toUInt64 &&& Int64.toUInt64 63)).toInt64).toInt32) (h0 : w = 0) (h : nlzS v.toInt32.toInt z) : nlzL v (32 + z) := by
  have e := hi_N v
  rw [← hw, i32_0.mp h0] at e
  have e2 := lo_N v
  have n0 := i64_0 hv
  obtain ⟨m, a, b, c, d⟩ := nlz_bit h (by rw [e2]; omega)
  rw [e2, show v.toBitVec.toNat % 4294967296 = v.toBitVec.toNat by omega] at c d
  refine ⟨by omega, by omega, ?_, fun k k0 k1 => ?_⟩
  · rw [bz_tb, show (63 - (32 + z)).toNat = m by omega]; exact c
  · rw [bz_tb]; exact d _ (by omega)
def ntzS (w : Int32) (z : Int) : Prop := (w = 0 ∧ z = 32) ∨ (∃ t : Nat, (t : Int) = z ∧ t < 32 ∧ w.toBitVec.toNat.testBit t = true ∧ ∀ j, j < t → w.toBitVec.toNat.testBit j = false)
theorem low_bit : ∀ (x : Nat), x ≠ 0 → ∃ t q, x = 2 ^ t * (2 * q + 1) := by
  intro x
  induction x using Nat.strongRecOn with
  | ind x ih =>
    intro h
    by_cases e : x % 2 = 1
    · exact ⟨0, x / 2, by omega⟩
    · obtain ⟨t, q, hq⟩ := ih (x / 2) (by omega) (by omega)
      exact ⟨t + 1, q, by rw [Nat.pow_succ, Nat.mul_comm (2 ^ t) 2, Nat.mul_assoc, ← hq]; omega⟩
theorem tb_low {t q j : Nat} : (2 ^ t * (2 * q + 1)).testBit j = if j < t then false else (2 * q + 1).testBit (j - t) := by
  rw [Nat.mul_comm, ← Nat.shiftLeft_eq, Nat.testBit_shiftLeft]
  by_cases h : t ≤ j
  · simp [h, show ¬ j < t by omega]
  · simp [h, show j < t by omega]
theorem tb_pred {t q j : Nat} : (2 ^ t * (2 * q + 1) - 1).testBit j = if j < t then true else (2 * q).testBit (j - t) := by
  have p : 0 < 2 ^ t := Nat.pow_pos (by decide)
  have e : 2 ^ t * (2 * q + 1) - 1 = 2 ^ t * (2 * q) + (2 ^ t - 1) := by rw [Nat.mul_add, Nat.mul_one]; omega
  rw [e, Nat.testBit_two_pow_mul_add _ (by omega)]
  by_cases h : j < t
  · rw [if_pos h, if_pos h, Nat.testBit_two_pow_sub_one]; simp [h]
  · rw [if_neg h, if_neg h]
/-- ~w & (w - 1): ones below the lowest bit that is 1 -/
theorem ntz_x (w : Int32) : ∃ y : Int, (w ^^^ iZ (-1)) &&& (w - iZ 1) = iZ y ∧ -1 ≤ y ∧ y ≤ 2147483647 ∧ ((w = 0 ∧ y = -1) ∨ (∃ t : Nat, t < 32 ∧ y = 2 ^ t - 1 ∧ w.toBitVec.toNat.testBit t = true ∧ ∀ j, j < t → w.toBitVec.toNat.testBit j = false)) := by
  by_cases h0 : w = 0
  · subst h0
    exact ⟨-1, by decide +kernel, by decide, by decide, Or.inl ⟨rfl, rfl⟩⟩
  · have n0 : w.toBitVec.toNat ≠ 0 := fun q => h0 (i32_0.mpr q)
    have lt : w.toBitVec.toNat < 2 ^ 32 := w.toBitVec.isLt
    obtain ⟨t, q, hq⟩ := low_bit _ n0
    have t32 : t < 32 := by
      rcases Nat.lt_or_ge t 32 with z | z
      · exact z
      · have : 2 ^ 32 ≤ 2 ^ t := Nat.pow_le_pow_right (by decide) z
        have : 2 ^ t * 1 ≤ 2 ^ t * (2 * q + 1) := Nat.mul_le_mul_left _ (by omega)
        omega
    have p : (2 : Nat) ^ t ≤ 2 ^ 31 := Nat.pow_le_pow_right (by decide) (by omega)
    have pz : ((2 ^ t : Nat) : Int) = 2 ^ t := by simp
    have pp : 0 < 2 ^ t := Nat.pow_pos (by decide)
    refine ⟨2 ^ t - 1, ?_, by omega, by omega, Or.inr ⟨t, t32, rfl, ?_, fun j hj => ?_⟩⟩
    · apply Int32.toBitVec_inj.mp
      apply BitVec.eq_of_getLsbD_eq
      intro i hi
      rw [Int32.toBitVec_and, Int32.toBitVec_xor, Int32.toBitVec_sub, BitVec.getLsbD_and, BitVec.getLsbD_xor, show (iZ (-1)).toBitVec = BitVec.allOnes 32 from by decide +kernel, BitVec.getLsbD_allOnes, decide_eq_true hi]
      have s1 : (w.toBitVec - (iZ 1).toBitVec).getLsbD i = (w.toBitVec.toNat - 1).testBit i := by
        rw [← BitVec.testBit_toNat, BitVec.toNat_sub_of_le (by rw [BitVec.le_def]; show (1 : Nat) ≤ _; omega)]; rfl
      have s2 : (iZ (2 ^ t - 1)).toBitVec.getLsbD i = (2 ^ t - 1).testBit i := by
        rw [iZ_nI (by omega), ← BitVec.testBit_toNat, pk_tn (by omega)]; congr 1; omega
      rw [s1, s2, ← BitVec.testBit_toNat, hq, tb_low, tb_pred, Nat.testBit_two_pow_sub_one]
      by_cases h : i < t
      · simp [h]
      · rw [if_neg h, if_neg h, decide_eq_false h]
        by_cases e : i = t
        · subst e; simp
        · obtain ⟨c, hc⟩ : ∃ c, i - t = c + 1 := ⟨i - t - 1, by omega⟩
          rw [hc, Nat.testBit_succ, Nat.testBit_succ, show (2 * q + 1) / 2 = q by omega, show 2 * q / 2 = q by omega]
          cases q.testBit c <;> rfl
    · rw [hq, tb_low, if_neg (by omega), show t - t = 0 by omega, Nat.testBit_zero]; simp
    · rw [hq, tb_low, if_pos hj]
def ntzL (v : Int64) (z : Int) : Prop := 0 ≤ z ∧ z < 64 ∧ bitZ v (63 - z) = true ∧ ∀ k, 63 - z < k → k < 64 → bitZ v k = false
theorem ntz_lo {v : Int64} {w : Int32} {z : Int} (hw : w = v.toInt32) (h0 : ¬ w = 0) (h : ntzS w z) : ntzL v z := by
  have e := lo_N v
  rw [← hw] at e
  rcases h with h | ⟨t, a, b, c, d⟩
  · exact absurd h.1 h0
  · rw [e, show (4294967296 : Nat) = 2 ^ 32 from rfl] at c d
    refine ⟨by omega, by omega, ?_, fun k k0 k1 => ?_⟩
    · rw [bz_tb, show (63 - (63 - z)).toNat = t by omega]
      rw [Nat.testBit_mod_two_pow, Bool.and_eq_true] at c; exact c.2
    · rw [bz_tb]
      have := d (63 - k).toNat (by omega)
      rw [Nat.testBit_mod_two_pow, decide_eq_true (by omega), Bool.true_and] at this; exact this
theorem ntz_hi {v : Int64} {w u : Int32} {z : Int} (hv : v ≠ lZ 0) (hw : w = v.toInt32) (h0 : w = 0) (hu : u = ((v.toUInt64 >>> ((iZ 32).toInt64.toUInt64 &&& Int64.toUInt64 63)).toInt64).toInt32) (h : ntzS u z) : ntzL v (32 + z) := by
  have e := lo_N v
  rw [← hw, i32_0.mp h0] at e
  have e2 := hi_N v
  rw [← hu] at e2
  have n0 := i64_0 hv
  rcases h with h | ⟨t, a, b, c, d⟩
  · rw [i32_0.mp h.1] at e2; omega
  · rw [e2, show (4294967296 : Nat) = 2 ^ 32 from rfl] at c d
    refine ⟨by omega, by omega, ?_, fun k k0 k1 => ?_⟩
    · rw [bz_tb, show (63 - (63 - (32 + z))).toNat = t + 32 by omega, ← Nat.testBit_div_two_pow]; exact c
    · rw [bz_tb]
      by_cases q : (63 - k).toNat < 32
      · have : (v.toBitVec.toNat % 2 ^ 32).testBit (63 - k).toNat = false := by
          rw [show v.toBitVec.toNat % 2 ^ 32 = 0 from e.symm]; exact Nat.zero_testBit _
        rw [Nat.testBit_mod_two_pow, decide_eq_true q, Bool.true_and] at this; exact this
      · rw [show (63 - k).toNat = ((63 - k).toNat - 32) + 32 by omega, ← Nat.testBit_div_two_pow]
        exact d ((63 - k).toNat - 32) (by omega)
