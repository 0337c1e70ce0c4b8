/-! bits of a long, counted from the highest one on -/
theorem iZ_nI {z : Int} (h : 0 ≤ z) : iZ z = nI z.toNat := by
  obtain ⟨n, rfl⟩ := Int.eq_ofNat_of_zero_le h
  exact Int32.ofInt_eq_ofNat
theorem lZ_lN {z : Int} (h : 0 ≤ z) : lZ z = lN z.toNat := by
  obtain ⟨n, rfl⟩ := Int.eq_ofNat_of_zero_le h
  exact Int64.ofInt_eq_ofNat
def bitZ (v : Int64) (k : Int) : Bool := v.toBitVec.getLsbD (63 - k).toNat
theorem bz_and (a b : Int64) (k : Int) : bitZ (a &&& b) k = (bitZ a k && bitZ b k) := by unfold bitZ; rw [Int64.toBitVec_and, BitVec.getLsbD_and]
theorem bz_or (a b : Int64) (k : Int) : bitZ (a ||| b) k = (bitZ a k || bitZ b k) := by unfold bitZ; rw [Int64.toBitVec_or, BitVec.getLsbD_or]
theorem bz_xor (a b : Int64) (k : Int) : bitZ (a ^^^ b) k = (bitZ a k ^^ bitZ b k) := by unfold bitZ; rw [Int64.toBitVec_xor, BitVec.getLsbD_xor]
theorem bz_0 (k : Int) : bitZ 0 k = false := by
  unfold bitZ; show (0#64).getLsbD _ = false; exact BitVec.getLsbD_zero
theorem bz_m1 {k : Int} (h1 : 0 ≤ k) (h2 : k < 64) : bitZ (lZ (-1)) k = true := by
  unfold bitZ
  show (BitVec.allOnes 64).getLsbD _ = true
  rw [BitVec.getLsbD_allOnes]; exact decide_eq_true (by omega)
theorem bz_ext {a b : Int64} (h : ∀ k : Int, 0 ≤ k → k < 64 → bitZ a k = bitZ b k) : a = b := by
  apply wb_inj
  apply BitVec.eq_of_getLsbD_eq
  intro i hi
  have h9 := h (63 - i) (by omega) (by omega)
  unfold bitZ at h9
  rw [show (63 - (63 - (i : Int))).toNat = i by omega] at h9
  exact h9
theorem bz_zero {a : Int64} : a = 0 ↔ ∀ k : Int, 0 ≤ k → k < 64 → bitZ a k = false :=
  ⟨fun h k _ _ => by rw [h, bz_0], fun h => bz_ext (fun k h1 h2 => by rw [h k h1 h2, bz_0])⟩
theorem bz_shl (a : Int64) {s k : Int} (s1 : 0 ≤ s) (s2 : s < 64) (k1 : 0 ≤ k) (k2 : k < 64) : bitZ (a <<< ((iZ s).toInt64 &&& 63)) k = (decide (k + s < 64) && bitZ a (k + s)) := by
  unfold bitZ
  rw [iZ_nI s1, wb_c _ (by omega), Int64.toBitVec_shiftLeft, wb_tb, wb_sm _ (by omega), BitVec.shiftLeft_eq', BitVec.getLsbD_shiftLeft, BitVec.toNat_ofNat, Nat.mod_eq_of_lt (by omega)]
  rw [show decide ((63 - k).toNat < 64) = true from decide_eq_true (by omega), Bool.true_and]
  by_cases h : k + s < 64
  · rw [decide_eq_true h, show decide ((63 - k).toNat < s.toNat) = false from decide_eq_false (by omega), show (63 - k).toNat - s.toNat = (63 - (k + s)).toNat by omega]; rfl
  · rw [decide_eq_false h, show decide ((63 - k).toNat < s.toNat) = true from decide_eq_true (by omega)]; rfl
theorem bz_ushr (a : Int64) {s k : Int} (s1 : 0 ≤ s) (s2 : s < 64) (k1 : 0 ≤ k) (k2 : k < 64) : bitZ ((a.toUInt64 >>> ((iZ s).toInt64.toUInt64 &&& Int64.toUInt64 63)).toInt64) k = (decide (s ≤ k) && bitZ a (k - s)) := by
  unfold bitZ
  rw [iZ_nI s1, wb_cu _ (by omega)]
  show ((a.toUInt64 >>> UInt64.ofNat s.toNat).toBitVec).getLsbD _ = _
  rw [UInt64.toBitVec_shiftRight]
  show (a.toBitVec >>> ((BitVec.ofNat 64 s.toNat) % 64)).getLsbD _ = _
  rw [show (BitVec.ofNat 64 s.toNat) % 64 = BitVec.ofNat 64 s.toNat from by
    apply BitVec.eq_of_toNat_eq
    rw [BitVec.toNat_umod, BitVec.toNat_ofNat, Nat.mod_eq_of_lt (show s.toNat < 2 ^ 64 by omega)]
    exact Nat.mod_eq_of_lt (by show s.toNat < 64; omega)]
  rw [BitVec.ushiftRight_eq', BitVec.getLsbD_ushiftRight, BitVec.toNat_ofNat, Nat.mod_eq_of_lt (by omega)]
  by_cases h : s ≤ k
  · rw [decide_eq_true h, show s.toNat + (63 - k).toNat = (63 - (k - s)).toNat by omega]; rfl
  · rw [decide_eq_false h, Bool.false_and]
    exact BitVec.getLsbD_of_ge _ _ (by omega)
theorem bz_neg (a : Int64) : a < 0 ↔ bitZ a 0 = true := by
  unfold bitZ
  rw [Int64.lt_iff_toInt_lt]
  show a.toBitVec.toInt < 0 ↔ a.toBitVec.getLsbD 63 = true
  have h : a.toBitVec.msb = decide (a.toBitVec.toInt < 0) := BitVec.msb_eq_toInt
  rw [BitVec.msb_eq_getLsbD_last] at h
  rw [show a.toBitVec.getLsbD 63 = decide (a.toBitVec.toInt < 0) from h, decide_eq_true_iff]
