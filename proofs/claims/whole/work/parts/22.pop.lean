/-! Long.bitCount -/
def popN : Nat → Nat → Nat
  | 0, _ => 0
  | k + 1, n => popN k n + n / 2 ^ k % 2
theorem pop_split (a : Nat) : ∀ (b n : Nat), popN (a + b) n = popN a n + popN b (n / 2 ^ a)
  | 0, n => by show popN a n = popN a n + 0; omega
  | b + 1, n => by
    show popN (a + b) n + n / 2 ^ (a + b) % 2 = popN a n + (popN b (n / 2 ^ a) + n / 2 ^ a / 2 ^ b % 2)
    rw [pop_split a b n, Nat.div_div_eq_div_mul, ← Nat.pow_add]; omega
theorem pop_mod (a : Nat) : ∀ (b n : Nat), b ≤ a → popN b (n % 2 ^ a) = popN b n
  | 0, _, _ => rfl
  | b + 1, n, h => by
    show popN b (n % 2 ^ a) + n % 2 ^ a / 2 ^ b % 2 = popN b n + n / 2 ^ b % 2
    rw [pop_mod a b n (by omega)]
    congr 1
    have e : 2 ^ a = 2 ^ b * 2 ^ (a - b) := by rw [← Nat.pow_add]; congr 1; omega
    rw [e, Nat.mod_mul_right_div_self]
    obtain ⟨c, hc⟩ : ∃ c, a - b = c + 1 := ⟨a - b - 1, by omega⟩
    rw [hc, Nat.pow_succ, Nat.mul_comm (2 ^ c) 2, Nat.mod_mul_right_mod]
def mk8 (d : Nat) : Nat → Nat
  | 0 => 0
  | k + 1 => 256 * mk8 d k + d
theorem and_256 (x y : Nat) : x &&& y = 256 * (x / 256 &&& y / 256) + (x % 256 &&& y % 256) := by
  have h1 : (x &&& y) / 2 ^ 8 = x / 2 ^ 8 &&& y / 2 ^ 8 := Nat.and_div_two_pow
  have h2 : (x &&& y) % 2 ^ 8 = x % 2 ^ 8 &&& y % 2 ^ 8 := Nat.and_mod_two_pow
  have := Nat.div_add_mod (x &&& y) (2 ^ 8)
  rw [h1, h2] at this
  exact this.symm
theorem and_mk (x d k : Nat) (hd : d < 256) : x &&& mk8 d (k + 1) = 256 * (x / 256 &&& mk8 d k) + (x % 256 &&& d) := by
  rw [and_256]
  show 256 * (x / 256 &&& (256 * mk8 d k + d) / 256) + (x % 256 &&& (256 * mk8 d k + d) % 256) = _
  rw [show (256 * mk8 d k + d) / 256 = mk8 d k by omega, show (256 * mk8 d k + d) % 256 = d by omega]
def bc1 (k n : Nat) : Nat := n - (n / 2 &&& mk8 85 k)
def bc2 (k n : Nat) : Nat := (n &&& mk8 51 k) + (n / 4 &&& mk8 51 k)
def bc3 (k n : Nat) : Nat := (n + n / 16) &&& mk8 15 k
theorem q1 : ∀ b : Fin 256, ∀ q : Fin 2, (128 * q.val + b.val / 2) &&& 85 = (b.val / 2) &&& 85 := by decide +kernel
theorem q1s : ∀ b : Fin 256, (b.val / 2) &&& 85 ≤ b.val := by decide +kernel
theorem bc1_s (k n : Nat) : bc1 (k + 1) n = 256 * bc1 k (n / 256) + (n % 256 - ((n % 256 / 2) &&& 85)) := by
  unfold bc1
  rw [and_mk _ _ _ (by decide), show n / 2 / 256 = n / 256 / 2 by omega, show n / 2 % 256 = 128 * (n / 256 % 2) + n % 256 / 2 by omega]
  have a := q1 ⟨n % 256, by omega⟩ ⟨n / 256 % 2, by omega⟩
  have b := q1s ⟨n % 256, by omega⟩
  dsimp only at a b
  rw [a]
  have c : n / 256 / 2 &&& mk8 85 k ≤ n / 256 / 2 := Nat.and_le_left
  omega
theorem q2 : ∀ b : Fin 256, ∀ q : Fin 4, (64 * q.val + b.val / 4) &&& 51 = (b.val / 4) &&& 51 := by decide +kernel
theorem bc2_s (k n : Nat) : bc2 (k + 1) n = 256 * bc2 k (n / 256) + ((n % 256 &&& 51) + ((n % 256 / 4) &&& 51)) := by
  unfold bc2
  rw [and_mk _ _ _ (by decide), and_mk _ _ _ (by decide), show n / 4 / 256 = n / 256 / 4 by omega, show n / 4 % 256 = 64 * (n / 256 % 4) + n % 256 / 4 by omega]
  have a := q2 ⟨n % 256, by omega⟩ ⟨n / 256 % 4, by omega⟩
  dsimp only at a
  rw [a]; omega
theorem q3 : ∀ b : Fin 69, ∀ q : Fin 5, (16 * q.val + b.val + b.val / 16) &&& 15 = (b.val + b.val / 16) &&& 15 := by decide +kernel
theorem bc3_s (k n : Nat) (h1 : n % 256 ≤ 68) (h2 : n / 256 % 16 ≤ 4) : bc3 (k + 1) n = 256 * bc3 k (n / 256) + ((n % 256 + n % 256 / 16) &&& 15) := by
  unfold bc3
  rw [and_mk _ _ _ (by decide), show (n + n / 16) / 256 = n / 256 + n / 256 / 16 by omega, show (n + n / 16) % 256 = 16 * (n / 256 % 16) + n % 256 + n % 256 / 16 by omega]
  have a := q3 ⟨n % 256, by omega⟩ ⟨n / 256 % 16, by omega⟩
  dsimp only at a
  rw [a]
def byP (b : Nat) : Nat := let x := b - ((b / 2) &&& 85); let y := (x &&& 51) + ((x / 4) &&& 51); (y + y / 16) &&& 15
def byQ (b : Nat) : Nat := let x := b - ((b / 2) &&& 85); (x &&& 51) + ((x / 4) &&& 51)
theorem byP_ok : ∀ b : Fin 256, byP b.val = popN 8 b.val ∧ byQ b.val ≤ 68 ∧ byQ b.val % 16 ≤ 4 := by decide +kernel
theorem popN8 (b : Nat) : popN 8 b ≤ 8 := by
  show popN 7 b + _ ≤ 8
  simp only [popN]; omega
def smB : Nat → Nat → Nat
  | 0, _ => 0
  | k + 1, n => 256 * smB k (n / 256) + popN 8 (n % 256)
theorem bc_all : ∀ (k n : Nat), bc3 k (bc2 k (bc1 k n)) = smB k n ∧ bc2 k (bc1 k n) % 16 ≤ 4
  | 0, n => by
    show ((((n - (n / 2 &&& 0)) &&& 0) + ((n - (n / 2 &&& 0)) / 4 &&& 0)) + _) &&& 0 = 0 ∧ (((n - (n / 2 &&& 0)) &&& 0) + ((n - (n / 2 &&& 0)) / 4 &&& 0)) % 16 ≤ 4
    simp
  | k + 1, n => by
    have ih := bc_all k (n / 256)
    have ok := byP_ok ⟨n % 256, by omega⟩
    dsimp only at ok
    have hx : n % 256 - ((n % 256 / 2) &&& 85) < 256 := by omega
    have e2 : bc2 (k + 1) (bc1 (k + 1) n) = 256 * bc2 k (bc1 k (n / 256)) + byQ (n % 256) := by
      rw [bc2_s, bc1_s]
      rw [show (256 * bc1 k (n / 256) + (n % 256 - ((n % 256 / 2) &&& 85))) / 256 = bc1 k (n / 256) by omega, show (256 * bc1 k (n / 256) + (n % 256 - ((n % 256 / 2) &&& 85))) % 256 = n % 256 - ((n % 256 / 2) &&& 85) by omega]
      rfl
    have hq := ok.2.1
    refine ⟨?_, by rw [e2]; omega⟩
    rw [e2, bc3_s _ _ (by omega) (by rw [show (256 * bc2 k (bc1 k (n / 256)) + byQ (n % 256)) / 256 = bc2 k (bc1 k (n / 256)) by omega]; exact ih.2)]
    rw [show (256 * bc2 k (bc1 k (n / 256)) + byQ (n % 256)) / 256 = bc2 k (bc1 k (n / 256)) by omega, show (256 * bc2 k (bc1 k (n / 256)) + byQ (n % 256)) % 256 = byQ (n % 256) by omega, ih.1]
    show _ = 256 * smB k (n / 256) + popN 8 (n % 256)
    rw [← ok.1]; rfl
theorem smB_sum (n : Nat) : ∃ c0 c1 c2 c3 c4 c5 c6 c7 : Nat, c0 ≤ 8 ∧ c1 ≤ 8 ∧ c2 ≤ 8 ∧ c3 ≤ 8 ∧ c4 ≤ 8 ∧ c5 ≤ 8 ∧ c6 ≤ 8 ∧ c7 ≤ 8 ∧ smB 8 n = c0 + 256 * (c1 + 256 * (c2 + 256 * (c3 + 256 * (c4 + 256 * (c5 + 256 * (c6 + 256 * c7)))))) ∧ popN 64 n = c0 + c1 + c2 + c3 + c4 + c5 + c6 + c7 := by
  have st : ∀ (k m : Nat), popN (8 + k) m = popN 8 (m % 256) + popN k (m / 256) := fun k m => by rw [pop_split 8 k m]; congr 1; exact (pop_mod 8 8 m (by omega)).symm
  refine ⟨_, _, _, _, _, _, _, _, popN8 (n % 256), popN8 (n / 256 % 256), popN8 (n / 256 / 256 % 256), popN8 (n / 256 / 256 / 256 % 256), popN8 (n / 256 / 256 / 256 / 256 % 256), popN8 (n / 256 / 256 / 256 / 256 / 256 % 256), popN8 (n / 256 / 256 / 256 / 256 / 256 / 256 % 256), popN8 (n / 256 / 256 / 256 / 256 / 256 / 256 / 256 % 256), ?_, ?_⟩
  · show 256 * (256 * (256 * (256 * (256 * (256 * (256 * (256 * 0 + _) + _) + _) + _) + _) + _) + _) + _ = _
    omega
  · rw [show (64 : Nat) = 8 + 56 from rfl, st, show (56 : Nat) = 8 + 48 from rfl, st, show (48 : Nat) = 8 + 40 from rfl, st, show (40 : Nat) = 8 + 32 from rfl, st, show (32 : Nat) = 8 + 24 from rfl, st, show (24 : Nat) = 8 + 16 from rfl, st, show (16 : Nat) = 8 + 8 from rfl, st, show (8 : Nat) = 8 + 0 from rfl, st]
    simp only [popN]; omega
/-- how many bits of a long are 1 -/
def pop (v : Int64) : Int := cR (fun k => bitZ v k) 64
theorem pop_N (v : Int64) : pop v = popN 64 v.toBitVec.toNat := by
  have h : ∀ m : Nat, m ≤ 64 → cR (fun k => bitZ v k) m + popN (64 - m) v.toBitVec.toNat = popN 64 v.toBitVec.toNat := by
    intro m
    induction m with
    | zero => intro _; show (0 : Int) + (popN 64 v.toBitVec.toNat : Nat) = _; omega
    | succ m ih =>
      intro hm
      have i := ih (by omega)
      have e : popN (64 - m) v.toBitVec.toNat = popN (64 - (m + 1)) v.toBitVec.toNat + v.toBitVec.toNat / 2 ^ (63 - m) % 2 := by
        rw [show 64 - m = (63 - m) + 1 by omega, show 64 - (m + 1) = 63 - m by omega]; rfl
      have b : (if bitZ v (m : Int) then (1 : Int) else 0) = ((v.toBitVec.toNat / 2 ^ (63 - m) % 2 : Nat) : Int) := by
        unfold bitZ
        rw [show (63 - (m : Int)).toNat = 63 - m by omega, ← BitVec.testBit_toNat, Nat.testBit_eq_decide_div_mod_eq]
        by_cases z : v.toBitVec.toNat / 2 ^ (63 - m) % 2 = 1
        · rw [decide_eq_true z, z]; rfl
        · rw [decide_eq_false z, show v.toBitVec.toNat / 2 ^ (63 - m) % 2 = 0 by omega]; rfl
      show cR (fun k => bitZ v k) m + (if bitZ v (m : Int) then 1 else 0) + _ = _
      rw [b]; omega
  have := h 64 (by decide)
  unfold pop
  show cR _ 64 = _
  rw [← this]; show _ = _ + ((0 : Nat) : Int); omega
theorem un_sub {x y : Int64} (h : y.toBitVec.toNat ≤ x.toBitVec.toNat) : (x - y).toBitVec.toNat = x.toBitVec.toNat - y.toBitVec.toNat := by
  rw [Int64.toBitVec_sub, BitVec.toNat_sub_of_le (by rw [BitVec.le_def]; exact h)]
theorem un_add {x y : Int64} (h : x.toBitVec.toNat + y.toBitVec.toNat < 2 ^ 64) : (x + y).toBitVec.toNat = x.toBitVec.toNat + y.toBitVec.toNat := by
  rw [Int64.toBitVec_add, BitVec.toNat_add, Nat.mod_eq_of_lt h]
theorem un_and (x y : Int64) : (x &&& y).toBitVec.toNat = x.toBitVec.toNat &&& y.toBitVec.toNat := by rw [Int64.toBitVec_and, BitVec.toNat_and]
theorem un_shr (x : Int64) {k : Int} (k0 : 0 ≤ k) (k1 : k < 64) : ((x.toUInt64 >>> ((iZ k).toInt64.toUInt64 &&& Int64.toUInt64 63)).toInt64).toBitVec.toNat = x.toBitVec.toNat / 2 ^ k.toNat := by
  rw [iZ_nI k0, wb_cu _ (by omega)]
  show (x.toUInt64 >>> UInt64.ofNat k.toNat).toNat = _
  rw [UInt64.toNat_shiftRight, UInt64.toNat_ofNat', Nat.mod_eq_of_lt (show k.toNat < 2 ^ 64 by omega), Nat.mod_eq_of_lt (show k.toNat < 64 by omega), Nat.shiftRight_eq_div_pow]
  rfl
theorem mk_le : mk8 51 8 = 3689348814741910323 ∧ mk8 85 8 = 6148914691236517205 ∧ mk8 15 8 = 1085102592571150095 := by decide +kernel
theorem fold_1 (c0 c1 c2 c3 c4 c5 c6 c7 : Nat) (k0 : c0 ≤ 8) : (c0 + 256 * (c1 + 256 * (c2 + 256 * (c3 + 256 * (c4 + 256 * (c5 + 256 * (c6 + 256 * c7))))))) / 256 = c1 + 256 * (c2 + 256 * (c3 + 256 * (c4 + 256 * (c5 + 256 * (c6 + 256 * c7))))) := by omega
theorem fold_2 (d0 d1 d2 d3 d4 d5 d6 d7 : Nat) (k0 : d0 ≤ 16) (k1 : d1 ≤ 16) : (d0 + 256 * (d1 + 256 * (d2 + 256 * (d3 + 256 * (d4 + 256 * (d5 + 256 * (d6 + 256 * d7))))))) / 65536 = d2 + 256 * (d3 + 256 * (d4 + 256 * (d5 + 256 * (d6 + 256 * d7)))) := by omega
theorem fold_3 (e0 e1 e2 e3 e4 R : Nat) (k0 : e0 ≤ 64) (k1 : e1 ≤ 64) (k2 : e2 ≤ 64) (k3 : e3 ≤ 64) : (e0 + 256 * (e1 + 256 * (e2 + 256 * (e3 + 256 * (e4 + 256 * R))))) / 4294967296 = e4 + 256 * R := by omega
theorem fold_lt (c0 c1 c2 c3 c4 c5 c6 c7 : Nat) (k0 : c0 ≤ 8) (k1 : c1 ≤ 8) (k2 : c2 ≤ 8) (k3 : c3 ≤ 8) (k4 : c4 ≤ 8) (k5 : c5 ≤ 8) (k6 : c6 ≤ 8) (k7 : c7 ≤ 8) : c0 + 256 * (c1 + 256 * (c2 + 256 * (c3 + 256 * (c4 + 256 * (c5 + 256 * (c6 + 256 * c7)))))) < 1152921504606846976 := by omega
theorem fold_d (c0 c1 c2 c3 c4 c5 c6 c7 : Nat) : c0 + 256 * (c1 + 256 * (c2 + 256 * (c3 + 256 * (c4 + 256 * (c5 + 256 * (c6 + 256 * c7)))))) + (c1 + 256 * (c2 + 256 * (c3 + 256 * (c4 + 256 * (c5 + 256 * (c6 + 256 * c7)))))) = (c0 + c1) + 256 * ((c1 + c2) + 256 * ((c2 + c3) + 256 * ((c3 + c4) + 256 * ((c4 + c5) + 256 * ((c5 + c6) + 256 * ((c6 + c7) + 256 * c7)))))) := by omega
theorem fold_e (d0 d1 d2 d3 d4 d5 d6 d7 : Nat) : d0 + 256 * (d1 + 256 * (d2 + 256 * (d3 + 256 * (d4 + 256 * (d5 + 256 * (d6 + 256 * d7)))))) + (d2 + 256 * (d3 + 256 * (d4 + 256 * (d5 + 256 * (d6 + 256 * d7))))) = (d0 + d2) + 256 * ((d1 + d3) + 256 * ((d2 + d4) + 256 * ((d3 + d5) + 256 * ((d4 + d6) + 256 * (d5 + d7 + 256 * (d6 + 256 * d7)))))) := by omega
theorem fold_f (e0 e1 e2 e3 e4 R : Nat) : ∃ K, e0 + 256 * (e1 + 256 * (e2 + 256 * (e3 + 256 * (e4 + 256 * R)))) + (e4 + 256 * R) = (e0 + e4) + 256 * K := ⟨e1 + 256 * (e2 + 256 * (e3 + 256 * (e4 + 256 * R))) + R, by omega⟩
theorem fold_m (n K : Nat) (h : n ≤ 64) : (n + 256 * K) % 4294967296 % 2 ^ 7 = n := by omega
theorem fold_all (c0 c1 c2 c3 c4 c5 c6 c7 : Nat) (k0 : c0 ≤ 8) (k1 : c1 ≤ 8) (k2 : c2 ≤ 8) (k3 : c3 ≤ 8) (k4 : c4 ≤ 8) (k5 : c5 ≤ 8) (k6 : c6 ≤ 8) (k7 : c7 ≤ 8) {x d e f : Nat} (hx : x = c0 + 256 * (c1 + 256 * (c2 + 256 * (c3 + 256 * (c4 + 256 * (c5 + 256 * (c6 + 256 * c7)))))))
    (hd : d = x + x / 256) (he : e = d + d / 65536) (hf : f = e + e / 4294967296) : f % 4294967296 % 2 ^ 7 = c0 + c1 + c2 + c3 + c4 + c5 + c6 + c7 := by
  have s2 : ∀ {a b : Nat}, a ≤ 8 → b ≤ 8 → a + b ≤ 16 := fun h1 h2 => Nat.add_le_add h1 h2
  have s4 : ∀ {a b : Nat}, a ≤ 16 → b ≤ 16 → a + b ≤ 64 := fun h1 h2 => Nat.le_trans (Nat.add_le_add h1 h2) (by decide)
  have s5 : ∀ {a b : Nat}, a ≤ 16 → b ≤ 16 → a + b ≤ 32 := fun h1 h2 => Nat.add_le_add h1 h2
  rw [hx, fold_1 c0 c1 c2 c3 c4 c5 c6 c7 k0, fold_d] at hd
  rw [hd, fold_2 _ _ _ _ _ _ _ _ (s2 k0 k1) (s2 k1 k2), fold_e] at he
  obtain ⟨K, hK⟩ := fold_f (c0 + c1 + (c2 + c3)) (c1 + c2 + (c3 + c4)) (c2 + c3 + (c4 + c5)) (c3 + c4 + (c5 + c6)) (c4 + c5 + (c6 + c7)) (c5 + c6 + c7 + 256 * (c6 + c7 + 256 * c7))
  rw [he, fold_3 _ _ _ _ _ _ (s4 (s2 k0 k1) (s2 k2 k3)) (s4 (s2 k1 k2) (s2 k3 k4)) (s4 (s2 k2 k3) (s2 k4 k5)) (s4 (s2 k3 k4) (s2 k5 k6)), hK] at hf
  rw [hf, fold_m _ _ (Nat.add_le_add (s5 (s2 k0 k1) (s2 k2 k3)) (s5 (s2 k4 k5) (s2 k6 k7)))]
  simp only [Nat.add_assoc]
theorem bc_fin {v a b c d e f : Int64}
    (ha : a = v - ((v.toUInt64 >>> ((iZ 1).toInt64.toUInt64 &&& Int64.toUInt64 63)).toInt64 &&& lZ 6148914691236517205))
    (hb : b = (a &&& lZ 3689348814741910323) + ((a.toUInt64 >>> ((iZ 2).toInt64.toUInt64 &&& Int64.toUInt64 63)).toInt64 &&& lZ 3689348814741910323))
    (hc : c = (b + (b.toUInt64 >>> ((iZ 4).toInt64.toUInt64 &&& Int64.toUInt64 63)).toInt64) &&& lZ 1085102592571150095)
    (hd : d = c + (c.toUInt64 >>> ((iZ 8).toInt64.toUInt64 &&& Int64.toUInt64 63)).toInt64)
    (he : e = d + (d.toUInt64 >>> ((iZ 16).toInt64.toUInt64 &&& Int64.toUInt64 63)).toInt64)
    (hf : f = e + (e.toUInt64 >>> ((iZ 32).toInt64.toUInt64 &&& Int64.toUInt64 63)).toInt64) : f.toInt32 &&& iZ 127 = iZ (pop v) := by
  have hN : v.toBitVec.toNat < 2 ^ 64 := v.toBitVec.isLt
  have m5 : (lZ 6148914691236517205).toBitVec.toNat = mk8 85 8 := by rw [mk_le.2.1]; decide +kernel
  have m3 : (lZ 3689348814741910323).toBitVec.toNat = mk8 51 8 := by rw [mk_le.1]; decide +kernel
  have mf : (lZ 1085102592571150095).toBitVec.toNat = mk8 15 8 := by rw [mk_le.2.2]; decide +kernel
  have ea : a.toBitVec.toNat = bc1 8 v.toBitVec.toNat := by
    have z : ((v.toUInt64 >>> ((iZ 1).toInt64.toUInt64 &&& Int64.toUInt64 63)).toInt64 &&& lZ 6148914691236517205).toBitVec.toNat = v.toBitVec.toNat / 2 &&& mk8 85 8 := by
      rw [un_and, un_shr _ (by decide) (by decide), m5]; rfl
    have y : v.toBitVec.toNat / 2 &&& mk8 85 8 ≤ v.toBitVec.toNat / 2 := Nat.and_le_left
    rw [ha, un_sub (by rw [z]; omega), z]; rfl
  have eb : b.toBitVec.toNat = bc2 8 (bc1 8 v.toBitVec.toNat) := by
    have z1 : (a &&& lZ 3689348814741910323).toBitVec.toNat = a.toBitVec.toNat &&& mk8 51 8 := by rw [un_and, m3]
    have z2 : ((a.toUInt64 >>> ((iZ 2).toInt64.toUInt64 &&& Int64.toUInt64 63)).toInt64 &&& lZ 3689348814741910323).toBitVec.toNat = a.toBitVec.toNat / 4 &&& mk8 51 8 := by rw [un_and, un_shr _ (by decide) (by decide), m3]; rfl
    have y1 : a.toBitVec.toNat &&& mk8 51 8 ≤ mk8 51 8 := Nat.and_le_right
    have y2 : a.toBitVec.toNat / 4 &&& mk8 51 8 ≤ mk8 51 8 := Nat.and_le_right
    have y3 := mk_le.1
    rw [hb, un_add (by rw [z1, z2]; omega), z1, z2, ea]; rfl
  have ec : c.toBitVec.toNat = smB 8 v.toBitVec.toNat := by
    have z1 : ((b.toUInt64 >>> ((iZ 4).toInt64.toUInt64 &&& Int64.toUInt64 63)).toInt64).toBitVec.toNat = b.toBitVec.toNat / 16 := un_shr _ (by decide) (by decide)
    have y0 : b.toBitVec.toNat ≤ 2 * mk8 51 8 := by
      rw [eb]
      have y1 : bc1 8 v.toBitVec.toNat &&& mk8 51 8 ≤ mk8 51 8 := Nat.and_le_right
      have y2 : bc1 8 v.toBitVec.toNat / 4 &&& mk8 51 8 ≤ mk8 51 8 := Nat.and_le_right
      unfold bc2; omega
    have y3 := mk_le.1
    rw [hc, un_and, un_add (by rw [z1]; omega), z1, mf, eb]
    exact (bc_all 8 v.toBitVec.toNat).1
  obtain ⟨c0, c1, c2, c3, c4, c5, c6, c7, k0, k1, k2, k3, k4, k5, k6, k7, hs, hp⟩ := smB_sum v.toBitVec.toNat
  rw [hs] at ec
  have lt := fold_lt c0 c1 c2 c3 c4 c5 c6 c7 k0 k1 k2 k3 k4 k5 k6 k7
  rw [← ec] at lt
  clear hs ea eb m5 m3 mf ha hb hc hN
  have ed : d.toBitVec.toNat = c.toBitVec.toNat + c.toBitVec.toNat / 256 := by
    have z1 : ((c.toUInt64 >>> ((iZ 8).toInt64.toUInt64 &&& Int64.toUInt64 63)).toInt64).toBitVec.toNat = c.toBitVec.toNat / 256 := un_shr _ (by decide) (by decide)
    rw [hd, un_add (by rw [z1]; clear ec; omega), z1]
  have lt2 : d.toBitVec.toNat < 2305843009213693952 := by rw [ed]; clear ec; omega
  have ee : e.toBitVec.toNat = d.toBitVec.toNat + d.toBitVec.toNat / 65536 := by
    have z1 : ((d.toUInt64 >>> ((iZ 16).toInt64.toUInt64 &&& Int64.toUInt64 63)).toInt64).toBitVec.toNat = d.toBitVec.toNat / 65536 := un_shr _ (by decide) (by decide)
    rw [he, un_add (by rw [z1]; clear ec; omega), z1]
  have lt3 : e.toBitVec.toNat < 4611686018427387904 := by rw [ee]; clear ec; omega
  have ef : f.toBitVec.toNat = e.toBitVec.toNat + e.toBitVec.toNat / 4294967296 := by
    have z1 : ((e.toUInt64 >>> ((iZ 32).toInt64.toUInt64 &&& Int64.toUInt64 63)).toInt64).toBitVec.toNat = e.toBitVec.toNat / 4294967296 := un_shr _ (by decide) (by decide)
    rw [hf, un_add (by rw [z1]; clear ec; omega), z1]
  have e7 : f.toInt32.toBitVec.toNat = f.toBitVec.toNat % 4294967296 := by
    show (BitVec.signExtend 32 f.toBitVec).toNat = _
    rw [BitVec.signExtend_eq_setWidth_of_le _ (by decide), BitVec.toNat_setWidth]
  have fin := fold_all c0 c1 c2 c3 c4 c5 c6 c7 k0 k1 k2 k3 k4 k5 k6 k7 ec ed ee ef
  clear ec ed ee ef lt lt2 lt3
  rw [pk_and _ (m := iZ 127) 7 (by decide), e7, fin, pop_N, hp, iZ_nI (Int.natCast_nonneg _)]
  rfl
