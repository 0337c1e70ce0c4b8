/-! a block is turned over its diagonal -/
def tpI (B K : Int → Int64) (T : Int) : Prop := ∀ r c : Int, 0 ≤ r → r < 64 → 0 ≤ c → c < 64 → bitZ (K r) c = bitZ (B (c / T * T + r % T)) (r / T * T + c % T)
def tpJ (B K : Int → Int64) (hf k : Int) : Prop := ∀ r c : Int, 0 ≤ r → r < 64 → 0 ≤ c → c < 64 → bitZ (K r) c = if r - r / hf % 2 * hf < k then bitZ (B (c / hf * hf + r % hf)) (r / hf * hf + c % hf) else bitZ (B (c / (2 * hf) * (2 * hf) + r % (2 * hf))) (r / (2 * hf) * (2 * hf) + c % (2 * hf))
def hfS (hf : Int) : Prop := hf = 32 ∨ hf = 16 ∨ hf = 8 ∨ hf = 4 ∨ hf = 2 ∨ hf = 1
def mkS (m : Int64) (hf : Int) : Prop := ∀ c : Int, 0 ≤ c → c < 64 → bitZ m c = decide (c / hf % 2 = 1)
theorem at2 {B : Int → Int64} {a b c d : Int} (h1 : a = c) (h2 : b = d) : bitZ (B a) b = bitZ (B c) d := by rw [h1, h2]
theorem tp_0 (B : Int → Int64) : tpI B B 64 := fun r c r0 r1 c0 c1 => at2 (by omega) (by omega)
theorem tp_1 {B K : Int → Int64} (h : tpI B K 1) : ∀ r c : Int, 0 ≤ r → r < 64 → 0 ≤ c → c < 64 → bitZ (K r) c = bitZ (B c) r := fun r c r0 r1 c0 c1 => (h r c r0 r1 c0 c1).trans (at2 (by omega) (by omega))
theorem tp_in {B K : Int → Int64} {hf : Int} (hh : hfS hf) (h : tpI B K (2 * hf)) : tpJ B K hf 0 := by
  intro r c r0 r1 c0 c1
  rw [if_neg (by rcases hh with rfl | rfl | rfl | rfl | rfl | rfl <;> omega)]
  exact h r c r0 r1 c0 c1
theorem tp_out {B K : Int → Int64} {hf k : Int} (hh : hfS hf) (hk : 64 ≤ k) (h : tpJ B K hf k) : tpI B K hf := by
  intro r c r0 r1 c0 c1
  rw [h r c r0 r1 c0 c1, if_pos (by rcases hh with rfl | rfl | rfl | rfl | rfl | rfl <;> omega)]
theorem tp_next {B K : Int → Int64} {hf k : Int} (hh : hfS hf) (hk : 64 ≤ k) (h : tpJ B K hf k) : tpI B K (if hf / 2 = 0 then 1 else 2 * (hf / 2)) := by
  rw [show (if hf / 2 = 0 then (1 : Int) else 2 * (hf / 2)) = hf by rcases hh with rfl | rfl | rfl | rfl | rfl | rfl <;> decide]
  exact tp_out hh hk h
theorem mk_32 : mkS (lZ 4294967295) 32 := by
  have h : ∀ c : Fin 64, bitZ (lZ 4294967295) (c.val : Int) = decide ((c.val : Int) / 32 % 2 = 1) := by decide +kernel
  intro c c0 c1
  have := h ⟨c.toNat, by omega⟩
  rw [show ((⟨c.toNat, by omega⟩ : Fin 64).val : Int) = c from Int.toNat_of_nonneg c0] at this
  exact this
theorem mk_next {m : Int64} {hf : Int} (hh : hfS hf) (h : mkS m hf) : hf / 2 ≠ 0 → mkS (m ^^^ (m <<< ((iZ (hf / 2)).toInt64 &&& 63))) (hf / 2) := by
  intro q c c0 c1
  rw [bz_xor, bz_shl _ (by rcases hh with rfl | rfl | rfl | rfl | rfl | rfl <;> decide) (by rcases hh with rfl | rfl | rfl | rfl | rfl | rfl <;> decide) c0 c1, h c c0 c1]
  by_cases z : c + hf / 2 < 64
  · rw [decide_eq_true z, Bool.true_and, h _ (by rcases hh with rfl | rfl | rfl | rfl | rfl | rfl <;> omega) z]
    by_cases a : c / hf % 2 = 1 <;> by_cases b : (c + hf / 2) / hf % 2 = 1
    · rw [decide_eq_true a, decide_eq_true b]; exact (decide_eq_false (by rcases hh with rfl | rfl | rfl | rfl | rfl | rfl <;> omega)).symm
    · rw [decide_eq_true a, decide_eq_false b]; exact (decide_eq_true (by rcases hh with rfl | rfl | rfl | rfl | rfl | rfl <;> omega)).symm
    · rw [decide_eq_false a, decide_eq_true b]; exact (decide_eq_true (by rcases hh with rfl | rfl | rfl | rfl | rfl | rfl <;> omega)).symm
    · rw [decide_eq_false a, decide_eq_false b]; exact (decide_eq_false (by rcases hh with rfl | rfl | rfl | rfl | rfl | rfl <;> omega)).symm
  · rw [decide_eq_false z, Bool.false_and, Bool.xor_false]
    exact decide_eq_decide.mpr (by rcases hh with rfl | rfl | rfl | rfl | rfl | rfl <;> omega)
theorem tp_bit {hf k : Int} (hh : hfS hf) (k0 : 0 ≤ k) (k1 : k < 64) : iZ k &&& iZ hf = 0 ↔ k / hf % 2 = 0 := by
  have h : ∀ c : Fin 64, (iZ (c.val : Int) &&& iZ 32 = 0 ↔ (c.val : Int) / 32 % 2 = 0) ∧ (iZ (c.val : Int) &&& iZ 16 = 0 ↔ (c.val : Int) / 16 % 2 = 0) ∧ (iZ (c.val : Int) &&& iZ 8 = 0 ↔ (c.val : Int) / 8 % 2 = 0) ∧ (iZ (c.val : Int) &&& iZ 4 = 0 ↔ (c.val : Int) / 4 % 2 = 0) ∧ (iZ (c.val : Int) &&& iZ 2 = 0 ↔ (c.val : Int) / 2 % 2 = 0) ∧ (iZ (c.val : Int) &&& iZ 1 = 0 ↔ (c.val : Int) / 1 % 2 = 0) := by decide +kernel
  have z := h ⟨k.toNat, by omega⟩
  rw [show ((⟨k.toNat, by omega⟩ : Fin 64).val : Int) = k from Int.toNat_of_nonneg k0] at z
  obtain ⟨a, b, c, d, e, f⟩ := z
  rcases hh with rfl | rfl | rfl | rfl | rfl | rfl
  · exact a
  · exact b
  · exact c
  · exact d
  · exact e
  · exact f
theorem tp_skip {B K : Int → Int64} {hf k : Int} (hh : hfS hf) (k0 : 0 ≤ k) (hb : k / hf % 2 ≠ 0) (h : tpJ B K hf k) : tpJ B K hf (k + 1) := by
  intro r c r0 r1 c0 c1
  rw [h r c r0 r1 c0 c1]
  by_cases q : r - r / hf % 2 * hf < k
  · rw [if_pos q, if_pos (by omega)]
  · rw [if_neg q, if_neg (by rcases hh with rfl | rfl | rfl | rfl | rfl | rfl <;> omega)]
theorem hf_in {hf : Int} (hh : hfS hf) : 1 ≤ hf ∧ hf ≤ 32 := by rcases hh with rfl | rfl | rfl | rfl | rfl | rfl <;> decide
theorem hf_k {hf k : Int} (hh : hfS hf) (k0 : 0 ≤ k) (k1 : k < 64) (hb : k / hf % 2 = 0) : k + hf < 64 := by rcases hh with rfl | rfl | rfl | rfl | rfl | rfl <;> omega
theorem tp_step {B K : Int → Int64} {hf k : Int} {m v : Int64} (hh : hfS hf) (k0 : 0 ≤ k) (k1 : k < 64) (hb : k / hf % 2 = 0) (hm : mkS m hf) (h : tpJ B K hf k)
    (hv : v = (K k ^^^ ((K (k + hf)).toUInt64 >>> ((iZ hf).toInt64.toUInt64 &&& Int64.toUInt64 63)).toInt64) &&& m) :
    tpJ B (upZ (upZ K k (K k ^^^ v)) (k + hf) (upZ K k (K k ^^^ v) (k + hf) ^^^ (v <<< ((iZ hf).toInt64 &&& 63)))) hf (k + 1) := by
  have hi := hf_in hh
  have k2 := hf_k hh k0 k1 hb
  have bv : ∀ c : Int, 0 ≤ c → c < 64 → bitZ v c = ((bitZ (K k) c ^^ (decide (hf ≤ c) && bitZ (K (k + hf)) (c - hf))) && decide (c / hf % 2 = 1)) := by
    intro c c0 c1
    rw [hv, bz_and, bz_xor, bz_ushr _ (by omega) (by omega) c0 c1, hm c c0 c1]
  intro r c r0 r1 c0 c1
  by_cases a : r = k + hf
  · subst a
    rw [upZ_s, upZ_n _ _ (by omega), bz_xor, bz_shl _ (by omega) (by omega) c0 c1]
    rw [if_pos (by rcases hh with rfl | rfl | rfl | rfl | rfl | rfl <;> omega)]
    by_cases z : c + hf < 64
    · rw [decide_eq_true z, Bool.true_and, bv _ (by omega) z, decide_eq_true (show hf ≤ c + hf by omega), Bool.true_and, show c + hf - hf = c by omega]
      by_cases y : c / hf % 2 = 1
      · rw [decide_eq_false (show ¬ (c + hf) / hf % 2 = 1 by rcases hh with rfl | rfl | rfl | rfl | rfl | rfl <;> omega), Bool.and_false, Bool.xor_false, h (k + hf) c r0 r1 c0 c1]
        rw [if_neg (by rcases hh with rfl | rfl | rfl | rfl | rfl | rfl <;> omega)]
        rcases hh with rfl | rfl | rfl | rfl | rfl | rfl <;> exact at2 (by omega) (by omega)
      · rw [decide_eq_true (show (c + hf) / hf % 2 = 1 by rcases hh with rfl | rfl | rfl | rfl | rfl | rfl <;> omega), Bool.and_true]
        rw [show ∀ p q : Bool, (p ^^ (q ^^ p)) = q by decide, h k (c + hf) k0 k1 (by omega) z]
        rw [if_neg (by rcases hh with rfl | rfl | rfl | rfl | rfl | rfl <;> omega)]
        rcases hh with rfl | rfl | rfl | rfl | rfl | rfl <;> exact at2 (by omega) (by omega)
    · rw [decide_eq_false z, Bool.false_and, Bool.xor_false, h (k + hf) c r0 r1 c0 c1]
      rw [if_neg (by rcases hh with rfl | rfl | rfl | rfl | rfl | rfl <;> omega)]
      rcases hh with rfl | rfl | rfl | rfl | rfl | rfl <;> exact at2 (by omega) (by omega)
  · rw [upZ_n _ _ a]
    by_cases b : r = k
    · subst b
      rw [upZ_s, bz_xor, bv c c0 c1, if_pos (by rcases hh with rfl | rfl | rfl | rfl | rfl | rfl <;> omega)]
      by_cases y : c / hf % 2 = 1
      · rw [decide_eq_true y, Bool.and_true, decide_eq_true (show hf ≤ c by rcases hh with rfl | rfl | rfl | rfl | rfl | rfl <;> omega), Bool.true_and]
        rw [show ∀ p q : Bool, (p ^^ (p ^^ q)) = q by decide, h (r + hf) (c - hf) (by omega) k2 (by rcases hh with rfl | rfl | rfl | rfl | rfl | rfl <;> omega) (by omega)]
        rw [if_neg (by rcases hh with rfl | rfl | rfl | rfl | rfl | rfl <;> omega)]
        rcases hh with rfl | rfl | rfl | rfl | rfl | rfl <;> exact at2 (by omega) (by omega)
      · rw [decide_eq_false y, Bool.and_false, Bool.xor_false, h r c r0 r1 c0 c1]
        rw [if_neg (by rcases hh with rfl | rfl | rfl | rfl | rfl | rfl <;> omega)]
        rcases hh with rfl | rfl | rfl | rfl | rfl | rfl <;> exact at2 (by omega) (by omega)
    · rw [upZ_n _ _ b, h r c r0 r1 c0 c1]
      by_cases q : r - r / hf % 2 * hf < k
      · rw [if_pos q, if_pos (by omega)]
      · rw [if_neg q, if_neg (by rcases hh with rfl | rfl | rfl | rfl | rfl | rfl <;> omega)]
/-- the blocks that are turned so far -/
def trI (h : Int) (pic : Int → Int → Bool) (K : Int → Int64) (dn al : Int) : Prop := ∀ x y : Int, 0 ≤ x → x < 1024 → 0 ≤ y → y < 1024 → bitZ (K (y * 16 + x / 64)) (x % 64) = (decide (x / 64 < dn ∨ (x / 64 = dn ∧ y / 64 < al)) && pic y (h - 1 - x))
def trP (h : Int) (pic : Int → Int → Bool) : Int → Int → Bool := fun x y => pic y (h - 1 - x)
theorem tr_0 {h : Int} {pic : Int → Int → Bool} {K : Int → Int64} (hK : ∀ i : Int, 0 ≤ i → i < (16384 : Nat) → K i = lZ 0) : trI h pic K 0 0 := by
  intro x y x0 x1 y0 y1
  rw [hK _ (by omega) (by omega), show lZ 0 = 0 from rfl, bz_0, decide_eq_false (by omega), Bool.false_and]
theorem tr_col {w h : Int} {pic : Int → Int → Bool} {K : Int → Int64} {dn al : Int} (hO : Off w h pic) (ha : w ≤ al * 64) (h0 : trI h pic K dn al) : trI h pic K (dn + 1) 0 := by
  intro x y x0 x1 y0 y1
  rw [h0 x y x0 x1 y0 y1]
  cases e : pic y (h - 1 - x)
  · rw [Bool.and_false, Bool.and_false]
  · have := Off_in hO e
    rw [Bool.and_true, Bool.and_true]; exact decide_eq_decide.mpr (by omega)
theorem tr_end {w h : Int} {pic : Int → Int → Bool} {K : Int → Int64} {dn : Int} (hO : Off w h pic) (ha : h ≤ dn * 64) (h0 : trI h pic K dn 0) : Rep K (trP h pic) := by
  intro x y x0 x1 y0 y1
  rw [h0 x y x0 x1 y0 y1]
  show _ = pic y (h - 1 - x)
  cases e : pic y (h - 1 - x)
  · rw [Bool.and_false]
  · have := Off_in hO e
    rw [decide_eq_true (by omega)]; rfl
theorem tr_step {w h : Int} {pic : Int → Int → Bool} {G K B T N : Int → Int64} {dn al : Int} (hR : Rep G pic) (hO : Off w h pic) (h2 : h ≤ 1024) (d0 : 0 ≤ dn) (d1 : dn < 16) (a0 : 0 ≤ al) (a1 : al < 16)
    (hB : ∀ k : Int, 0 ≤ k → k < 64 → B k = if h - 1 - (dn * 64 + k) < 0 then lZ 0 else G ((h - 1 - (dn * 64 + k)) * 16 + al))
    (hT : ∀ r c : Int, 0 ≤ r → r < 64 → 0 ≤ c → c < 64 → bitZ (T r) c = bitZ (B c) r)
    (hN : (∀ k : Int, 0 ≤ k → k < 64 → N ((al * 64 + k) * 16 + dn) = T k) ∧ ∀ i : Int, (∀ k : Int, 0 ≤ k → k < 64 → i ≠ (al * 64 + k) * 16 + dn) → N i = K i)
    (h0 : trI h pic K dn al) : trI h pic N dn (al + 1) := by
  intro x y x0 x1 y0 y1
  by_cases q : x / 64 = dn ∧ y / 64 = al
  · have e := hN.1 (y % 64) (by omega) (by omega)
    rw [show (al * 64 + y % 64) * 16 + dn = y * 16 + x / 64 by omega] at e
    rw [e, hT _ _ (by omega) (by omega) (by omega) (by omega), hB _ (by omega) (by omega), decide_eq_true (by omega), Bool.true_and, show h - 1 - (dn * 64 + x % 64) = h - 1 - x by omega]
    by_cases z : h - 1 - x < 0
    · rw [if_pos z, show lZ 0 = 0 from rfl, bz_0]
      exact (hO _ _ (decide_eq_false (by omega))).symm
    · rw [if_neg z, ← hR y (h - 1 - x) y0 y1 (by omega) (by omega), q.2]
  · rw [hN.2 _ (fun k k0 k1 => by omega), h0 x y x0 x1 y0 y1]
    congr 1; exact decide_eq_decide.mpr (by omega)
theorem tr_off {w h : Int} {pic : Int → Int → Bool} (hO : Off w h pic) : Off h w (trP h pic) := by
  intro x y q
  refine hO _ _ (decide_eq_false (fun z => absurd q ?_))
  rw [show onB h w x y = true from decide_eq_true (by omega)]; decide
def trN (w h : Int) (pic : Int → Int → Bool) : Nat → Int × Int × (Int → Int → Bool)
  | 0 => (w, h, pic)
  | n + 1 => ((trN w h pic n).2.1, (trN w h pic n).1, trP (trN w h pic n).2.1 (trN w h pic n).2.2)
theorem d_Pa_transposeBlock_0 : decode c_yPa_transposeBlock 0 = .ok (.ldc2_w 101, 3) := by decide +kernel
theorem d_Pa_transposeBlock_3 : decode c_yPa_transposeBlock 3 = .ok (.lstore_n 1, 1) := by decide +kernel
theorem d_Pa_transposeBlock_4 : decode c_yPa_transposeBlock 4 = .ok (.bipush 32, 2) := by decide +kernel
theorem d_Pa_transposeBlock_6 : decode c_yPa_transposeBlock 6 = .ok (.istore_n 3, 1) := by decide +kernel
theorem d_Pa_transposeBlock_7 : decode c_yPa_transposeBlock 7 = .ok (.iload_n 3, 1) := by decide +kernel
theorem d_Pa_transposeBlock_8 : decode c_yPa_transposeBlock 8 = .ok (.ifCond .le 92, 3) := by decide +kernel
theorem d_Pa_transposeBlock_11 : decode c_yPa_transposeBlock 11 = .ok (.iconst 0, 1) := by decide +kernel
theorem d_Pa_transposeBlock_12 : decode c_yPa_transposeBlock 12 = .ok (.istore 4, 2) := by decide +kernel
theorem d_Pa_transposeBlock_14 : decode c_yPa_transposeBlock 14 = .ok (.iload 4, 2) := by decide +kernel
theorem d_Pa_transposeBlock_16 : decode c_yPa_transposeBlock 16 = .ok (.bipush 64, 2) := by decide +kernel
theorem d_Pa_transposeBlock_18 : decode c_yPa_transposeBlock 18 = .ok (.if_icmp .ge 67, 3) := by decide +kernel
theorem d_Pa_transposeBlock_21 : decode c_yPa_transposeBlock 21 = .ok (.iload 4, 2) := by decide +kernel
theorem d_Pa_transposeBlock_23 : decode c_yPa_transposeBlock 23 = .ok (.iload_n 3, 1) := by decide +kernel
theorem d_Pa_transposeBlock_24 : decode c_yPa_transposeBlock 24 = .ok (.iand, 1) := by decide +kernel
theorem d_Pa_transposeBlock_25 : decode c_yPa_transposeBlock 25 = .ok (.ifCond .ne 54, 3) := by decide +kernel
theorem d_Pa_transposeBlock_28 : decode c_yPa_transposeBlock 28 = .ok (.aload_n 0, 1) := by decide +kernel
theorem d_Pa_transposeBlock_29 : decode c_yPa_transposeBlock 29 = .ok (.getfield 28, 3) := by decide +kernel
theorem d_Pa_transposeBlock_32 : decode c_yPa_transposeBlock 32 = .ok (.iload 4, 2) := by decide +kernel
theorem d_Pa_transposeBlock_34 : decode c_yPa_transposeBlock 34 = .ok (.laload, 1) := by decide +kernel
theorem d_Pa_transposeBlock_35 : decode c_yPa_transposeBlock 35 = .ok (.aload_n 0, 1) := by decide +kernel
theorem d_Pa_transposeBlock_36 : decode c_yPa_transposeBlock 36 = .ok (.getfield 28, 3) := by decide +kernel
theorem d_Pa_transposeBlock_39 : decode c_yPa_transposeBlock 39 = .ok (.iload 4, 2) := by decide +kernel
theorem d_Pa_transposeBlock_41 : decode c_yPa_transposeBlock 41 = .ok (.iload_n 3, 1) := by decide +kernel
theorem d_Pa_transposeBlock_42 : decode c_yPa_transposeBlock 42 = .ok (.iadd, 1) := by decide +kernel
theorem d_Pa_transposeBlock_43 : decode c_yPa_transposeBlock 43 = .ok (.laload, 1) := by decide +kernel
theorem d_Pa_transposeBlock_44 : decode c_yPa_transposeBlock 44 = .ok (.iload_n 3, 1) := by decide +kernel
theorem d_Pa_transposeBlock_45 : decode c_yPa_transposeBlock 45 = .ok (.lushr, 1) := by decide +kernel
theorem d_Pa_transposeBlock_46 : decode c_yPa_transposeBlock 46 = .ok (.lxor, 1) := by decide +kernel
theorem d_Pa_transposeBlock_47 : decode c_yPa_transposeBlock 47 = .ok (.lload_n 1, 1) := by decide +kernel
theorem d_Pa_transposeBlock_48 : decode c_yPa_transposeBlock 48 = .ok (.land, 1) := by decide +kernel
theorem d_Pa_transposeBlock_49 : decode c_yPa_transposeBlock 49 = .ok (.lstore 5, 2) := by decide +kernel
theorem d_Pa_transposeBlock_51 : decode c_yPa_transposeBlock 51 = .ok (.aload_n 0, 1) := by decide +kernel
theorem d_Pa_transposeBlock_52 : decode c_yPa_transposeBlock 52 = .ok (.getfield 28, 3) := by decide +kernel
theorem d_Pa_transposeBlock_55 : decode c_yPa_transposeBlock 55 = .ok (.iload 4, 2) := by decide +kernel
theorem d_Pa_transposeBlock_57 : decode c_yPa_transposeBlock 57 = .ok (.dup2, 1) := by decide +kernel
theorem d_Pa_transposeBlock_58 : decode c_yPa_transposeBlock 58 = .ok (.laload, 1) := by decide +kernel
theorem d_Pa_transposeBlock_59 : decode c_yPa_transposeBlock 59 = .ok (.lload 5, 2) := by decide +kernel
theorem d_Pa_transposeBlock_61 : decode c_yPa_transposeBlock 61 = .ok (.lxor, 1) := by decide +kernel
theorem d_Pa_transposeBlock_62 : decode c_yPa_transposeBlock 62 = .ok (.lastore, 1) := by decide +kernel
theorem d_Pa_transposeBlock_63 : decode c_yPa_transposeBlock 63 = .ok (.aload_n 0, 1) := by decide +kernel
theorem d_Pa_transposeBlock_64 : decode c_yPa_transposeBlock 64 = .ok (.getfield 28, 3) := by decide +kernel
theorem d_Pa_transposeBlock_67 : decode c_yPa_transposeBlock 67 = .ok (.iload 4, 2) := by decide +kernel
theorem d_Pa_transposeBlock_69 : decode c_yPa_transposeBlock 69 = .ok (.iload_n 3, 1) := by decide +kernel
theorem d_Pa_transposeBlock_70 : decode c_yPa_transposeBlock 70 = .ok (.iadd, 1) := by decide +kernel
theorem d_Pa_transposeBlock_71 : decode c_yPa_transposeBlock 71 = .ok (.dup2, 1) := by decide +kernel
theorem d_Pa_transposeBlock_72 : decode c_yPa_transposeBlock 72 = .ok (.laload, 1) := by decide +kernel
theorem d_Pa_transposeBlock_73 : decode c_yPa_transposeBlock 73 = .ok (.lload 5, 2) := by decide +kernel
theorem d_Pa_transposeBlock_75 : decode c_yPa_transposeBlock 75 = .ok (.iload_n 3, 1) := by decide +kernel
theorem d_Pa_transposeBlock_76 : decode c_yPa_transposeBlock 76 = .ok (.lshl, 1) := by decide +kernel
theorem d_Pa_transposeBlock_77 : decode c_yPa_transposeBlock 77 = .ok (.lxor, 1) := by decide +kernel
theorem d_Pa_transposeBlock_78 : decode c_yPa_transposeBlock 78 = .ok (.lastore, 1) := by decide +kernel
theorem d_Pa_transposeBlock_79 : decode c_yPa_transposeBlock 79 = .ok (.iinc 4 1, 3) := by decide +kernel
theorem d_Pa_transposeBlock_82 : decode c_yPa_transposeBlock 82 = .ok (.goto (-68), 3) := by decide +kernel
theorem d_Pa_transposeBlock_85 : decode c_yPa_transposeBlock 85 = .ok (.lload_n 1, 1) := by decide +kernel
theorem d_Pa_transposeBlock_86 : decode c_yPa_transposeBlock 86 = .ok (.lload_n 1, 1) := by decide +kernel
theorem d_Pa_transposeBlock_87 : decode c_yPa_transposeBlock 87 = .ok (.iload_n 3, 1) := by decide +kernel
theorem d_Pa_transposeBlock_88 : decode c_yPa_transposeBlock 88 = .ok (.iconst 2, 1) := by decide +kernel
theorem d_Pa_transposeBlock_89 : decode c_yPa_transposeBlock 89 = .ok (.idiv, 1) := by decide +kernel
theorem d_Pa_transposeBlock_90 : decode c_yPa_transposeBlock 90 = .ok (.lshl, 1) := by decide +kernel
theorem d_Pa_transposeBlock_91 : decode c_yPa_transposeBlock 91 = .ok (.lxor, 1) := by decide +kernel
theorem d_Pa_transposeBlock_92 : decode c_yPa_transposeBlock 92 = .ok (.lstore_n 1, 1) := by decide +kernel
theorem d_Pa_transposeBlock_93 : decode c_yPa_transposeBlock 93 = .ok (.iload_n 3, 1) := by decide +kernel
theorem d_Pa_transposeBlock_94 : decode c_yPa_transposeBlock 94 = .ok (.iconst 2, 1) := by decide +kernel
theorem d_Pa_transposeBlock_95 : decode c_yPa_transposeBlock 95 = .ok (.idiv, 1) := by decide +kernel
theorem d_Pa_transposeBlock_96 : decode c_yPa_transposeBlock 96 = .ok (.istore_n 3, 1) := by decide +kernel
theorem d_Pa_transposeBlock_97 : decode c_yPa_transposeBlock 97 = .ok (.goto (-90), 3) := by decide +kernel
theorem d_Pa_transposeBlock_100 : decode c_yPa_transposeBlock 100 = .ok (.return_, 1) := by decide +kernel
set_option maxHeartbeats 4000000 in
set_option maxRecDepth 100000 in
theorem c_Paper_transposeBlock (l : Launch) (dC : Nat → ClassId) (dI : Nat → Nat → Nat) (hp hw hs hk : Nat) (cL : ClassId) (w h mn : Int) (Bk : Int → Int64) (sz : Nat)  : Met l y_Pa_transposeBlock w_Pa_transposeBlock ({ frames := 0, cells := 0, slots := 0, locals := 0 }) (va_Pc [.ref hp] (zPm (dC, dI) vwCl [(hp, .inr (2, [.int (iZ w), .int (iZ h), .int (iZ mn), .ref hw, .ref hs, .ref hk])), (hk, .inl (cL, 64, .inr (.inl (aL Bk))))] [(cL, .long)] sz)) (va_Qv (fun (u : Int → Int64) => ∀ r c : Int, 0 ≤ r → r < 64 → 0 ≤ c → c < 64 → bitZ (u r) c = bitZ (Bk c) r) (fun u => zB (dC, dI) vwCl [(cL, .long)] (va_A [(hp, .inr (2, [.int (iZ w), .int (iZ h), .int (iZ mn), .ref hw, .ref hs, .ref hk])), (hk, .inl (cL, 64, .inr (.inl (aL Bk))))] sz) [(hp, .inr (2, [.int (iZ w), .int (iZ h), .int (iZ mn), .ref hw, .ref hs, .ref hk])), (hk, .inl (cL, 64, .inr (.inl (aL u))))]) (va_A [(hp, .inr (2, [.int (iZ w), .int (iZ h), .int (iZ mn), .ref hw, .ref hs, .ref hk])), (hk, .inl (cL, 64, .inr (.inl (aL Bk))))] sz)) 0 0 (va_A [(hp, .inr (2, [.int (iZ w), .int (iZ h), .int (iZ mn), .ref hw, .ref hs, .ref hk])), (hk, .inl (cL, 64, .inr (.inl (aL Bk))))] sz) := by
  refine Met.ofW (cc := c_yPa_transposeBlock) (maxL := 7) (ret := none) (by decide) rfl ?_
  intro p e s m args below meth c s₁ B hml hv
  obtain ⟨rfl, hsz, hP, hK, hD0⟩ := hv
  have hx := B.exec
  have hb := B.bytes
  have hr := B.returns
  have hts0 := atoms_spec (ws := w_Pa_transposeBlock) B.pre
  have hts : ∀ w ∈ gT, w.before _ s = true := fun w h => hts0 w (List.mem_cons_of_mem _ h)
  have hown : s.vm.findClass R_Pa = some m.cls := findClass_of_methodNamed B.named
  have hlocks := B.notSynchronized
  subst hsz
  have hD := hD0.self (sz := s.heap.size)
  generalize hAe : va_A [(hp, .inr (2, [.int (iZ w), .int (iZ h), .int (iZ mn), .ref hw, .ref hs, .ref hk])), (hk, .inl (cL, 64, .inr (.inl (aL Bk))))] s.heap.size = A at hD ⊢
  have hA : ∀ q : Nat, s.heap.size ≤ q → A q := fun q h => by rw [← hAe]; exact Or.inr h
  obtain ⟨H, hH⟩ : ∃ H, s.heap = H := ⟨_, rfl⟩
  have hS : va_S A s.heap H [] := by rw [← hH]; exact va_S.rf
  rw [hH] at hP
  rw [hH]
  have hl := lv_entry ([.ref hp]) (n := 7) (Nat.le_of_ble_eq_true rfl)
  rw [lg_entry_eq]
  generalize (lg_sl ([.ref hp]) ++ List.replicate (7 - (lg_sl ([.ref hp])).length) Slot.unset).toArray = ls at hl ⊢
  have hl : lv_has ls 7 [(0, .ref hp)] := hl
  refine lv_ldc2 (v := lZ (4294967295)) hx hb hown (hts _ t_573) d_Pa_transposeBlock_0 ?_
  refine lv_lstore_n (lv' := [(1, .long (lZ 4294967295)), (0, .ref hp)]) hx hb d_Pa_transposeBlock_3 rfl hl (by decide) rfl (fun ls hl => ?_)
  refine lv_bipush (v := iZ (32)) hx hb d_Pa_transposeBlock_4 (by decide) ?_
  refine lv_istore_n (lv' := [(3, .int (iZ 32)), (1, .long (lZ 4294967295)), (0, .ref hp)]) hx hb d_Pa_transposeBlock_6 rfl hl (by decide) rfl (fun ls hl => ?_)
  have LP_7 : ∀ (n_7 : Nat) (half : Int) (mk : Int64) (K : Int → Int64), (hfS half ∨ half = 0) → (half ≠ 0 → mkS mk half) → (tpI Bk K (if half = 0 then 1 else 2 * half)) → (0 ≤ half ∧ half ≤ 32) → half.toNat < n_7 → ∀ (H : Heap) (locs : List Loc), va_P (dC, dI) vwCl [(hp, .inr (2, [.int (iZ w), .int (iZ h), .int (iZ mn), .ref hw, .ref hs, .ref hk])), (hk, .inl (cL, 64, .inr (.inl (aL K))))] H → va_D A [(hp, .inr (2, [.int (iZ w), .int (iZ h), .int (iZ mn), .ref hw, .ref hs, .ref hk])), (hk, .inl (cL, 64, .inr (.inl (aL K))))] → va_S A s.heap H locs → ∀ (ls : Array Slot), lv_has ls 7 [(0, .ref hp), (1, .long mk), (3, .int (iZ half))] → W p l e ({ frames := 0, cells := 0, slots := 0, locals := 0 } : Room) s m ([.ref hp] : List Value).toArray below meth c H locs 0 0 (MQ below (va_Qv (fun (u : Int → Int64) => ∀ r c : Int, 0 ≤ r → r < 64 → 0 ≤ c → c < 64 → bitZ (u r) c = bitZ (Bk c) r) (fun u => zB (dC, dI) vwCl [(cL, .long)] A [(hp, .inr (2, [.int (iZ w), .int (iZ h), .int (iZ mn), .ref hw, .ref hs, .ref hk])), (hk, .inl (cL, 64, .inr (.inl (aL u))))]) A) ([.ref hp] : List Value).toArray s 0 0 A) (F0 m 7 ls []) := by
    intro n_7
    induction n_7 with
    | zero => intro half mk K i1 i2 i3 i4 hm; exact absurd hm (by omega)
    | succ n_7 ih_7 =>
      intro half mk K i1 i2 i3 i4 hm_7 H locs hP hD hS ls hl
      have hh : 0 < half → hfS half := fun q => i1.elim id (fun z => absurd z (by omega))
      refine lv_iload_n hx hb d_Pa_transposeBlock_7 rfl (lv_at hl 2 rfl) ?_
      refine zi_if_le (tgt := 100) hx hb d_Pa_transposeBlock_8 (by decide) (by omega) (by omega) (fun c_8 => ?_) (fun c_8 => ?_)
      · exact W.vret hx hb hr (fun t ht hW => ⟨⟨K, rfl, by rw [if_pos (by omega)] at i3; exact tp_1 i3, by rw [ht]; exact hP, va_K.moved hW.alike hK, hD⟩, hS.F ht⟩) hS.2.2 d_Pa_transposeBlock_100
      · refine lv_iconst (v := iZ (0)) hx hb d_Pa_transposeBlock_11 rfl ?_
        refine lv_istore (lv' := [(4, .int (iZ 0)), (0, .ref hp), (1, .long mk), (3, .int (iZ half))]) hx hb d_Pa_transposeBlock_12 hl (by decide) rfl (fun ls hl => ?_)
        have LP_14 : ∀ (n_14 : Nat) (k : Int) (K2 : Int → Int64), (0 ≤ k) → (k ≤ 64) → (tpJ Bk K2 half k) → (64 - k).toNat < n_14 → ∀ (H : Heap) (locs : List Loc), va_P (dC, dI) vwCl [(hp, .inr (2, [.int (iZ w), .int (iZ h), .int (iZ mn), .ref hw, .ref hs, .ref hk])), (hk, .inl (cL, 64, .inr (.inl (aL K2))))] H → va_D A [(hp, .inr (2, [.int (iZ w), .int (iZ h), .int (iZ mn), .ref hw, .ref hs, .ref hk])), (hk, .inl (cL, 64, .inr (.inl (aL K2))))] → va_S A s.heap H locs → ∀ (ls : Array Slot), lv_has ls 7 [(0, .ref hp), (1, .long mk), (3, .int (iZ half)), (4, .int (iZ k))] → W p l e ({ frames := 0, cells := 0, slots := 0, locals := 0 } : Room) s m ([.ref hp] : List Value).toArray below meth c H locs 0 0 (MQ below (va_Qv (fun (u : Int → Int64) => ∀ r c : Int, 0 ≤ r → r < 64 → 0 ≤ c → c < 64 → bitZ (u r) c = bitZ (Bk c) r) (fun u => zB (dC, dI) vwCl [(cL, .long)] A [(hp, .inr (2, [.int (iZ w), .int (iZ h), .int (iZ mn), .ref hw, .ref hs, .ref hk])), (hk, .inl (cL, 64, .inr (.inl (aL u))))]) A) ([.ref hp] : List Value).toArray s 0 0 A) (F0 m 14 ls []) := by
          intro n_14
          induction n_14 with
          | zero => intro k K2 j1 j2 j3 hm; exact absurd hm (by omega)
          | succ n_14 ih_14 =>
            intro k K2 j1 j2 j3 hm_14 H locs hP hD hS ls hl
            refine lv_iload hx hb d_Pa_transposeBlock_14 (lv_at hl 3 rfl) ?_
            refine lv_bipush (v := iZ (64)) hx hb d_Pa_transposeBlock_16 (by decide) ?_
            refine zi_ge (tgt := 85) hx hb d_Pa_transposeBlock_18 (by decide) (by omega) (by omega) (by omega) (by omega) (fun c_18 => ?_) (fun c_18 => ?_)
            · refine lv_lload_n hx hb d_Pa_transposeBlock_85 rfl (lv_at hl 1 rfl) ?_
              refine lv_lload_n hx hb d_Pa_transposeBlock_86 rfl (lv_at hl 1 rfl) ?_
              refine lv_iload_n hx hb d_Pa_transposeBlock_87 rfl (lv_at hl 2 rfl) ?_
              refine lv_iconst (v := iZ (2)) hx hb d_Pa_transposeBlock_88 rfl ?_
              refine zi_div hx hb d_Pa_transposeBlock_89 (by omega) (by omega) (by omega) (by omega) ?_
              refine lv_lshl hx hb d_Pa_transposeBlock_90 rfl ?_
              refine lv_lxor hx hb d_Pa_transposeBlock_91 ?_
              refine lv_topl (fun v1_92 e_v1_92 => ?_)
              refine lv_lstore_n (lv' := [(1, .long v1_92), (0, .ref hp), (3, .int (iZ half)), (4, .int (iZ k))]) hx hb d_Pa_transposeBlock_92 rfl hl (by decide) rfl (fun ls hl => ?_)
              refine lv_iload_n hx hb d_Pa_transposeBlock_93 rfl (lv_at hl 2 rfl) ?_
              refine lv_iconst (v := iZ (2)) hx hb d_Pa_transposeBlock_94 rfl ?_
              refine zi_div hx hb d_Pa_transposeBlock_95 (by omega) (by omega) (by omega) (by omega) ?_
              refine zn_z (fun v3_96 e_v3_96 => ?_)
              refine lv_istore_n (lv' := [(3, .int (iZ v3_96)), (1, .long v1_92), (0, .ref hp), (4, .int (iZ k))]) hx hb d_Pa_transposeBlock_96 rfl hl (by decide) rfl (fun ls hl => ?_)
              refine lv_goto (tgt := 7) hx hb d_Pa_transposeBlock_97 (by decide) ?_
              exact ih_7 v3_96 v1_92 K2 (by have z9 := hh (by omega); rw [e_v3_96]; rcases z9 with rfl | rfl | rfl | rfl | rfl | rfl <;> unfold hfS <;> omega) (by rw [e_v3_96, e_v1_92]; exact mk_next (hh (by omega)) (i2 (by omega))) (by rw [e_v3_96]; exact tp_next (hh (by omega)) (by omega) j3) (by omega) (by omega) _ _ hP hD hS ls (lv_sub hl [2, 1, 0] rfl)
            · refine lv_iload hx hb d_Pa_transposeBlock_21 (lv_at hl 3 rfl) ?_
              refine lv_iload_n hx hb d_Pa_transposeBlock_23 rfl (lv_at hl 2 rfl) ?_
              refine lv_iand hx hb d_Pa_transposeBlock_24 ?_
              refine lv_if_ne (tgt := 79) hx hb d_Pa_transposeBlock_25 (by decide) (fun c_25 => ?_) (fun c_25 => ?_)
              · refine lv_iinc (v := iZ (k + 1)) (lv' := [(4, .int (iZ (k + 1))), (0, .ref hp), (1, .long mk), (3, .int (iZ half))]) hx hb d_Pa_transposeBlock_79 hl (k := 3) rfl (iZ_add _ _) (by decide) rfl (fun ls hl => ?_)
                refine lv_goto (tgt := 14) hx hb d_Pa_transposeBlock_82 (by decide) ?_
                exact ih_14 (k + 1) K2 (by omega) (by omega) (by first | exact tp_skip (hh (by omega)) j1 (fun z => c_25 ((tp_bit (hh (by omega)) j1 (by omega)).mpr z)) j3 | exact tp_step (hh (by omega)) j1 (by omega) kb (i2 (by omega)) j3 e_v) (by omega) _ _ hP hD hS ls (lv_sub hl [1, 2, 3, 0] rfl)
              · have kb := (tp_bit (hh (by omega)) j1 (by omega)).mp c_25
                have kc := hf_k (hh (by omega)) j1 (by omega) kb
                refine lv_aload_n hx hb d_Pa_transposeBlock_28 rfl (lv_at hl 0 rfl) ?_
                refine va_get (D := (dC, dI)) (ci := 2) (v := .ref hk) (C := R_Pa) (T := T_Pa) (N := 6) hx hb hts wi_Pa hown hK hP 0 rfl rfl 5 (by decide) (hts _ t_41) (fun _ h9 => h9) rfl d_Pa_transposeBlock_29 ?_
                refine lv_iload hx hb d_Pa_transposeBlock_32 (lv_at hl 3 rfl) ?_
                refine z_lald hx hb hK hP 1 0 rfl rfl (by omega) (by omega) (by omega) d_Pa_transposeBlock_34 ?_
                refine lv_aload_n hx hb d_Pa_transposeBlock_35 rfl (lv_at hl 0 rfl) ?_
                refine va_get (D := (dC, dI)) (ci := 2) (v := .ref hk) (C := R_Pa) (T := T_Pa) (N := 6) hx hb hts wi_Pa hown hK hP 0 rfl rfl 5 (by decide) (hts _ t_41) (fun _ h9 => h9) rfl d_Pa_transposeBlock_36 ?_
                refine lv_iload hx hb d_Pa_transposeBlock_39 (lv_at hl 3 rfl) ?_
                refine lv_iload_n hx hb d_Pa_transposeBlock_41 rfl (lv_at hl 2 rfl) ?_
                refine zi_add hx hb d_Pa_transposeBlock_42 ?_
                refine z_lald hx hb hK hP 1 0 rfl rfl (by omega) (by omega) (by omega) d_Pa_transposeBlock_43 ?_
                refine lv_iload_n hx hb d_Pa_transposeBlock_44 rfl (lv_at hl 2 rfl) ?_
                refine lv_lushr hx hb d_Pa_transposeBlock_45 rfl ?_
                refine lv_lxor hx hb d_Pa_transposeBlock_46 ?_
                refine lv_lload_n hx hb d_Pa_transposeBlock_47 rfl (lv_at hl 1 rfl) ?_
                refine lv_land hx hb d_Pa_transposeBlock_48 ?_
                refine lv_topl (fun v e_v => ?_)
                refine lv_lstore (lv' := [(5, .long v), (0, .ref hp), (1, .long mk), (3, .int (iZ half)), (4, .int (iZ k))]) hx hb d_Pa_transposeBlock_49 hl (by decide) rfl (fun ls hl => ?_)
                refine lv_aload_n hx hb d_Pa_transposeBlock_51 rfl (lv_at hl 1 rfl) ?_
                refine va_get (D := (dC, dI)) (ci := 2) (v := .ref hk) (C := R_Pa) (T := T_Pa) (N := 6) hx hb hts wi_Pa hown hK hP 0 rfl rfl 5 (by decide) (hts _ t_41) (fun _ h9 => h9) rfl d_Pa_transposeBlock_52 ?_
                refine lv_iload hx hb d_Pa_transposeBlock_55 (lv_at hl 4 rfl) ?_
                refine lv_dup2_11 hx hb d_Pa_transposeBlock_57 rfl rfl ?_
                refine z_lald hx hb hK hP 1 0 rfl rfl (by omega) (by omega) (by omega) d_Pa_transposeBlock_58 ?_
                refine lv_lload hx hb d_Pa_transposeBlock_59 (lv_at hl 0 rfl) ?_
                refine lv_lxor hx hb d_Pa_transposeBlock_61 ?_
                refine z_last hx hb hK hP hD hS 1 0 rfl rfl (by omega) (by omega) (by omega) d_Pa_transposeBlock_62 (fun H locs hP hD hS => ?_)
                have hP : va_P (dC, dI) vwCl [(hp, .inr (2, [.int (iZ w), .int (iZ h), .int (iZ mn), .ref hw, .ref hs, .ref hk])), (hk, .inl (cL, 64, .inr (.inl (aL (upZ K2 k ((K2 k) ^^^ v))))))] H := hP
                have hD : va_D A [(hp, .inr (2, [.int (iZ w), .int (iZ h), .int (iZ mn), .ref hw, .ref hs, .ref hk])), (hk, .inl (cL, 64, .inr (.inl (aL (upZ K2 k ((K2 k) ^^^ v))))))] := hD
                refine lv_aload_n hx hb d_Pa_transposeBlock_63 rfl (lv_at hl 1 rfl) ?_
                refine va_get (D := (dC, dI)) (ci := 2) (v := .ref hk) (C := R_Pa) (T := T_Pa) (N := 6) hx hb hts wi_Pa hown hK hP 0 rfl rfl 5 (by decide) (hts _ t_41) (fun _ h9 => h9) rfl d_Pa_transposeBlock_64 ?_
                refine lv_iload hx hb d_Pa_transposeBlock_67 (lv_at hl 4 rfl) ?_
                refine lv_iload_n hx hb d_Pa_transposeBlock_69 rfl (lv_at hl 3 rfl) ?_
                refine zi_add hx hb d_Pa_transposeBlock_70 ?_
                refine lv_dup2_11 hx hb d_Pa_transposeBlock_71 rfl rfl ?_
                refine z_lald hx hb hK hP 1 0 rfl rfl (by omega) (by omega) (by omega) d_Pa_transposeBlock_72 ?_
                refine lv_lload hx hb d_Pa_transposeBlock_73 (lv_at hl 0 rfl) ?_
                refine lv_iload_n hx hb d_Pa_transposeBlock_75 rfl (lv_at hl 3 rfl) ?_
                refine lv_lshl hx hb d_Pa_transposeBlock_76 rfl ?_
                refine lv_lxor hx hb d_Pa_transposeBlock_77 ?_
                refine z_last hx hb hK hP hD hS 1 0 rfl rfl (by omega) (by omega) (by omega) d_Pa_transposeBlock_78 (fun H locs hP hD hS => ?_)
                have hP : va_P (dC, dI) vwCl [(hp, .inr (2, [.int (iZ w), .int (iZ h), .int (iZ mn), .ref hw, .ref hs, .ref hk])), (hk, .inl (cL, 64, .inr (.inl (aL (upZ (upZ K2 k ((K2 k) ^^^ v)) (k + half) (((upZ K2 k ((K2 k) ^^^ v)) (k + half)) ^^^ (v <<< (((iZ half)).toInt64 &&& 63))))))))] H := hP
                have hD : va_D A [(hp, .inr (2, [.int (iZ w), .int (iZ h), .int (iZ mn), .ref hw, .ref hs, .ref hk])), (hk, .inl (cL, 64, .inr (.inl (aL (upZ (upZ K2 k ((K2 k) ^^^ v)) (k + half) (((upZ K2 k ((K2 k) ^^^ v)) (k + half)) ^^^ (v <<< (((iZ half)).toInt64 &&& 63))))))))] := hD
                refine lv_iinc (v := iZ (k + 1)) (lv' := [(4, .int (iZ (k + 1))), (5, .long v), (0, .ref hp), (1, .long mk), (3, .int (iZ half))]) hx hb d_Pa_transposeBlock_79 hl (k := 4) rfl (iZ_add _ _) (by decide) rfl (fun ls hl => ?_)
                refine lv_goto (tgt := 14) hx hb d_Pa_transposeBlock_82 (by decide) ?_
                exact ih_14 (k + 1) (upZ (upZ K2 k ((K2 k) ^^^ v)) (k + half) (((upZ K2 k ((K2 k) ^^^ v)) (k + half)) ^^^ (v <<< (((iZ half)).toInt64 &&& 63)))) (by omega) (by omega) (by first | exact tp_skip (hh (by omega)) j1 (fun z => c_25 ((tp_bit (hh (by omega)) j1 (by omega)).mpr z)) j3 | exact tp_step (hh (by omega)) j1 (by omega) kb (i2 (by omega)) j3 e_v) (by omega) _ _ hP hD hS ls (lv_sub hl [2, 3, 4, 0] rfl)
        exact LP_14 _ 0 K (by omega) (by omega) (tp_in (hh (by omega)) (by rw [if_neg (by omega)] at i3; exact i3)) (Nat.lt_succ_self _) _ _ hP hD hS ls (lv_sub hl [1, 2, 3, 0] rfl)
  exact LP_7 _ 32 (lZ 4294967295) Bk (Or.inl (Or.inl rfl)) (fun _ => mk_32) (tp_0 Bk) (by decide) (Nat.lt_succ_self _) _ _ hP hD hS ls (lv_sub hl [2, 1, 0] rfl)
theorem d_Pa_turnRight_0 : decode c_yPa_turnRight 0 = .ok (.aload_n 0, 1) := by decide +kernel
theorem d_Pa_turnRight_1 : decode c_yPa_turnRight 1 = .ok (.getfield 25, 3) := by decide +kernel
theorem d_Pa_turnRight_4 : decode c_yPa_turnRight 4 = .ok (.lconst 0, 1) := by decide +kernel
theorem d_Pa_turnRight_5 : decode c_yPa_turnRight 5 = .ok (.invokestatic 31, 3) := by decide +kernel
theorem d_Pa_turnRight_8 : decode c_yPa_turnRight 8 = .ok (.iconst 0, 1) := by decide +kernel
theorem d_Pa_turnRight_9 : decode c_yPa_turnRight 9 = .ok (.istore_n 1, 1) := by decide +kernel
theorem d_Pa_turnRight_10 : decode c_yPa_turnRight 10 = .ok (.iload_n 1, 1) := by decide +kernel
theorem d_Pa_turnRight_11 : decode c_yPa_turnRight 11 = .ok (.bipush 64, 2) := by decide +kernel
theorem d_Pa_turnRight_13 : decode c_yPa_turnRight 13 = .ok (.imul, 1) := by decide +kernel
theorem d_Pa_turnRight_14 : decode c_yPa_turnRight 14 = .ok (.aload_n 0, 1) := by decide +kernel
theorem d_Pa_turnRight_15 : decode c_yPa_turnRight 15 = .ok (.getfield 15, 3) := by decide +kernel
theorem d_Pa_turnRight_18 : decode c_yPa_turnRight 18 = .ok (.if_icmp .ge 44, 3) := by decide +kernel
theorem d_Pa_turnRight_21 : decode c_yPa_turnRight 21 = .ok (.iconst 0, 1) := by decide +kernel
theorem d_Pa_turnRight_22 : decode c_yPa_turnRight 22 = .ok (.istore_n 2, 1) := by decide +kernel
theorem d_Pa_turnRight_23 : decode c_yPa_turnRight 23 = .ok (.iload_n 2, 1) := by decide +kernel
theorem d_Pa_turnRight_24 : decode c_yPa_turnRight 24 = .ok (.bipush 64, 2) := by decide +kernel
theorem d_Pa_turnRight_26 : decode c_yPa_turnRight 26 = .ok (.imul, 1) := by decide +kernel
theorem d_Pa_turnRight_27 : decode c_yPa_turnRight 27 = .ok (.aload_n 0, 1) := by decide +kernel
theorem d_Pa_turnRight_28 : decode c_yPa_turnRight 28 = .ok (.getfield 11, 3) := by decide +kernel
theorem d_Pa_turnRight_31 : decode c_yPa_turnRight 31 = .ok (.if_icmp .ge 25, 3) := by decide +kernel
theorem d_Pa_turnRight_34 : decode c_yPa_turnRight 34 = .ok (.aload_n 0, 1) := by decide +kernel
theorem d_Pa_turnRight_35 : decode c_yPa_turnRight 35 = .ok (.iload_n 1, 1) := by decide +kernel
theorem d_Pa_turnRight_36 : decode c_yPa_turnRight 36 = .ok (.iload_n 2, 1) := by decide +kernel
theorem d_Pa_turnRight_37 : decode c_yPa_turnRight 37 = .ok (.invokevirtual 86, 3) := by decide +kernel
theorem d_Pa_turnRight_40 : decode c_yPa_turnRight 40 = .ok (.aload_n 0, 1) := by decide +kernel
theorem d_Pa_turnRight_41 : decode c_yPa_turnRight 41 = .ok (.invokevirtual 90, 3) := by decide +kernel
theorem d_Pa_turnRight_44 : decode c_yPa_turnRight 44 = .ok (.aload_n 0, 1) := by decide +kernel
theorem d_Pa_turnRight_45 : decode c_yPa_turnRight 45 = .ok (.iload_n 2, 1) := by decide +kernel
theorem d_Pa_turnRight_46 : decode c_yPa_turnRight 46 = .ok (.iload_n 1, 1) := by decide +kernel
theorem d_Pa_turnRight_47 : decode c_yPa_turnRight 47 = .ok (.invokevirtual 93, 3) := by decide +kernel
theorem d_Pa_turnRight_50 : decode c_yPa_turnRight 50 = .ok (.iinc 2 1, 3) := by decide +kernel
theorem d_Pa_turnRight_53 : decode c_yPa_turnRight 53 = .ok (.goto (-30), 3) := by decide +kernel
theorem d_Pa_turnRight_56 : decode c_yPa_turnRight 56 = .ok (.iinc 1 1, 3) := by decide +kernel
theorem d_Pa_turnRight_59 : decode c_yPa_turnRight 59 = .ok (.goto (-49), 3) := by decide +kernel
theorem d_Pa_turnRight_62 : decode c_yPa_turnRight 62 = .ok (.aload_n 0, 1) := by decide +kernel
theorem d_Pa_turnRight_63 : decode c_yPa_turnRight 63 = .ok (.getfield 25, 3) := by decide +kernel
theorem d_Pa_turnRight_66 : decode c_yPa_turnRight 66 = .ok (.astore_n 1, 1) := by decide +kernel
theorem d_Pa_turnRight_67 : decode c_yPa_turnRight 67 = .ok (.aload_n 0, 1) := by decide +kernel
theorem d_Pa_turnRight_68 : decode c_yPa_turnRight 68 = .ok (.aload_n 0, 1) := by decide +kernel
theorem d_Pa_turnRight_69 : decode c_yPa_turnRight 69 = .ok (.getfield 21, 3) := by decide +kernel
theorem d_Pa_turnRight_72 : decode c_yPa_turnRight 72 = .ok (.putfield 25, 3) := by decide +kernel
theorem d_Pa_turnRight_75 : decode c_yPa_turnRight 75 = .ok (.aload_n 0, 1) := by decide +kernel
theorem d_Pa_turnRight_76 : decode c_yPa_turnRight 76 = .ok (.aload_n 1, 1) := by decide +kernel
theorem d_Pa_turnRight_77 : decode c_yPa_turnRight 77 = .ok (.putfield 21, 3) := by decide +kernel
theorem d_Pa_turnRight_80 : decode c_yPa_turnRight 80 = .ok (.aload_n 0, 1) := by decide +kernel
theorem d_Pa_turnRight_81 : decode c_yPa_turnRight 81 = .ok (.getfield 15, 3) := by decide +kernel
theorem d_Pa_turnRight_84 : decode c_yPa_turnRight 84 = .ok (.istore_n 2, 1) := by decide +kernel
theorem d_Pa_turnRight_85 : decode c_yPa_turnRight 85 = .ok (.aload_n 0, 1) := by decide +kernel
theorem d_Pa_turnRight_86 : decode c_yPa_turnRight 86 = .ok (.aload_n 0, 1) := by decide +kernel
theorem d_Pa_turnRight_87 : decode c_yPa_turnRight 87 = .ok (.getfield 11, 3) := by decide +kernel
theorem d_Pa_turnRight_90 : decode c_yPa_turnRight 90 = .ok (.putfield 15, 3) := by decide +kernel
theorem d_Pa_turnRight_93 : decode c_yPa_turnRight 93 = .ok (.aload_n 0, 1) := by decide +kernel
theorem d_Pa_turnRight_94 : decode c_yPa_turnRight 94 = .ok (.iload_n 2, 1) := by decide +kernel
theorem d_Pa_turnRight_95 : decode c_yPa_turnRight 95 = .ok (.putfield 11, 3) := by decide +kernel
theorem d_Pa_turnRight_98 : decode c_yPa_turnRight 98 = .ok (.return_, 1) := by decide +kernel
set_option maxHeartbeats 4000000 in
set_option maxRecDepth 100000 in
theorem c_Paper_turnRight (l : Launch) (dC : Nat → ClassId) (dI : Nat → Nat → Nat) (hp hw hs hk : Nat) (cL : ClassId) (w h mn : Int) (G : Int → Int64) (pic : Int → Int → Bool) (Sp Bk : Int → Int64) (sz : Nat) (w1 : 1 ≤ w) (w2 : w ≤ 1024) (h1 : 1 ≤ h) (h2 : h ≤ 1024) (hR : Rep G pic) (hO : Off w h pic) : Met l y_Pa_turnRight w_Pa_turnRight ({ frames := 1, cells := 0, slots := 0, locals := 26 }) (va_Pc [.ref hp] (zPm (dC, dI) vwCl [(hp, .inr (2, [.int (iZ w), .int (iZ h), .int (iZ mn), .ref hw, .ref hs, .ref hk])), (hw, .inl (cL, 16384, .inr (.inl (aL G)))), (hs, .inl (cL, 16384, .inr (.inl (aL Sp)))), (hk, .inl (cL, 64, .inr (.inl (aL Bk))))] [(cL, .long)] sz)) (va_Qv (fun (u : (Int → Int64) × (Int → Int64)) => Rep u.1 (trP h pic)) (fun u => zB (dC, dI) vwCl [(cL, .long)] (va_A [(hp, .inr (2, [.int (iZ w), .int (iZ h), .int (iZ mn), .ref hw, .ref hs, .ref hk])), (hw, .inl (cL, 16384, .inr (.inl (aL G)))), (hs, .inl (cL, 16384, .inr (.inl (aL Sp)))), (hk, .inl (cL, 64, .inr (.inl (aL Bk))))] sz) [(hp, .inr (2, [.int (iZ h), .int (iZ w), .int (iZ mn), .ref hs, .ref hw, .ref hk])), (hs, .inl (cL, 16384, .inr (.inl (aL u.1)))), (hw, .inl (cL, 16384, .inr (.inl (aL G)))), (hk, .inl (cL, 64, .inr (.inl (aL u.2))))]) (va_A [(hp, .inr (2, [.int (iZ w), .int (iZ h), .int (iZ mn), .ref hw, .ref hs, .ref hk])), (hw, .inl (cL, 16384, .inr (.inl (aL G)))), (hs, .inl (cL, 16384, .inr (.inl (aL Sp)))), (hk, .inl (cL, 64, .inr (.inl (aL Bk))))] sz)) 0 0 (va_A [(hp, .inr (2, [.int (iZ w), .int (iZ h), .int (iZ mn), .ref hw, .ref hs, .ref hk])), (hw, .inl (cL, 16384, .inr (.inl (aL G)))), (hs, .inl (cL, 16384, .inr (.inl (aL Sp)))), (hk, .inl (cL, 64, .inr (.inl (aL Bk))))] sz) := by
  refine Met.ofW (cc := c_yPa_turnRight) (maxL := 3) (ret := none) (by decide) rfl ?_
  intro p e s m args below meth c s₁ B hml hv
  obtain ⟨rfl, hsz, hP, hK, hD0⟩ := hv
  have hx := B.exec
  have hb := B.bytes
  have hr := B.returns
  have hts0 := atoms_spec (ws := w_Pa_turnRight) B.pre
  have hts : ∀ w ∈ gT, w.before _ s = true := fun w h => hts0 w (List.mem_cons_of_mem _ h)
  have hown : s.vm.findClass R_Pa = some m.cls := findClass_of_methodNamed B.named
  have hlocks := B.notSynchronized
  subst hsz
  have hD := hD0.self (sz := s.heap.size)
  generalize hAe : va_A [(hp, .inr (2, [.int (iZ w), .int (iZ h), .int (iZ mn), .ref hw, .ref hs, .ref hk])), (hw, .inl (cL, 16384, .inr (.inl (aL G)))), (hs, .inl (cL, 16384, .inr (.inl (aL Sp)))), (hk, .inl (cL, 64, .inr (.inl (aL Bk))))] s.heap.size = A at hD ⊢
  have hA : ∀ q : Nat, s.heap.size ≤ q → A q := fun q h => by rw [← hAe]; exact Or.inr h
  obtain ⟨H, hH⟩ : ∃ H, s.heap = H := ⟨_, rfl⟩
  have hS : va_S A s.heap H [] := by rw [← hH]; exact va_S.rf
  rw [hH] at hP
  rw [hH]
  have hl := lv_entry ([.ref hp]) (n := 3) (Nat.le_of_ble_eq_true rfl)
  rw [lg_entry_eq]
  generalize (lg_sl ([.ref hp]) ++ List.replicate (3 - (lg_sl ([.ref hp])).length) Slot.unset).toArray = ls at hl ⊢
  have hl : lv_has ls 3 [(0, .ref hp)] := hl
  refine lv_aload_n hx hb d_Pa_turnRight_0 rfl (lv_at hl 0 rfl) ?_
  refine va_get (D := (dC, dI)) (ci := 2) (v := .ref hs) (C := R_Pa) (T := T_Pa) (N := 6) hx hb hts wi_Pa hown hK hP 0 rfl rfl 4 (by decide) (hts _ t_40) (fun _ h9 => h9) rfl d_Pa_turnRight_1 ?_
  refine lv_lconst (v := lZ 0) hx hb d_Pa_turnRight_4 (by decide) ?_
  refine zc_v (w1 := fun (u_5 : Int → Int64) => [(hs, .inl (cL, 16384, .inr (.inl (aL u_5))))]) (wr := [(hp, .inr (2, [.int (iZ w), .int (iZ h), .int (iZ mn), .ref hw, .ref hs, .ref hk])), (hw, .inl (cL, 16384, .inr (.inl (aL G)))), (hk, .inl (cL, 64, .inr (.inl (aL Bk))))]) (va_runS (As := [.ref hs, .long (lZ 0)]) (rest := []) ⟨hx, hb, hml, hown, hts⟩ (c_fillL l dC dI hs cL 16384 Sp (lZ 0) H.size (by first | omega | assumption)) (va_cwS 2 hts (gS t_228 t_229 t_11 t_230) rfl rfl rfl (by decide +kernel) ⟨Nat.le_of_ble_eq_true rfl, Nat.le_of_ble_eq_true rfl⟩) ⟨zPm_blind, zPm_pre hP hD hK [2] [0] rfl rfl rfl rfl⟩ rfl rfl hl.1 rfl (lv_room (Nat.le_of_ble_eq_true rfl)) d_Pa_turnRight_5 ⟨Nat.le_of_ble_eq_true rfl, Nat.le_of_ble_eq_true rfl⟩) hP hD hS hA [2] [0, 1, 3] rfl rfl rfl (by decide) (fun u_5 H locs q_5 hP hD hS => ?_)
  have hP : va_P (dC, dI) vwCl [(hp, .inr (2, [.int (iZ w), .int (iZ h), .int (iZ mn), .ref hw, .ref hs, .ref hk])), (hw, .inl (cL, 16384, .inr (.inl (aL G)))), (hk, .inl (cL, 64, .inr (.inl (aL Bk)))), (hs, .inl (cL, 16384, .inr (.inl (aL u_5))))] H := hP
  have hD : va_D A [(hp, .inr (2, [.int (iZ w), .int (iZ h), .int (iZ mn), .ref hw, .ref hs, .ref hk])), (hw, .inl (cL, 16384, .inr (.inl (aL G)))), (hk, .inl (cL, 64, .inr (.inl (aL Bk)))), (hs, .inl (cL, 16384, .inr (.inl (aL u_5))))] := hD
  refine lv_iconst (v := iZ (0)) hx hb d_Pa_turnRight_8 rfl ?_
  refine lv_istore_n (lv' := [(1, .int (iZ 0)), (0, .ref hp)]) hx hb d_Pa_turnRight_9 rfl hl (by decide) rfl (fun ls hl => ?_)
  have LP_10 : ∀ (n_10 : Nat) (dn : Int) (K : Int → Int64) (C1 : Int → Int64), (0 ≤ dn) → (dn ≤ 16) → (trI h pic K dn 0) → (16 - dn).toNat < n_10 → ∀ (H : Heap) (locs : List Loc), va_P (dC, dI) vwCl [(hp, .inr (2, [.int (iZ w), .int (iZ h), .int (iZ mn), .ref hw, .ref hs, .ref hk])), (hw, .inl (cL, 16384, .inr (.inl (aL G)))), (hs, .inl (cL, 16384, .inr (.inl (aL K)))), (hk, .inl (cL, 64, .inr (.inl (aL C1))))] H → va_D A [(hp, .inr (2, [.int (iZ w), .int (iZ h), .int (iZ mn), .ref hw, .ref hs, .ref hk])), (hw, .inl (cL, 16384, .inr (.inl (aL G)))), (hs, .inl (cL, 16384, .inr (.inl (aL K)))), (hk, .inl (cL, 64, .inr (.inl (aL C1))))] → va_S A s.heap H locs → ∀ (ls : Array Slot), lv_has ls 3 [(0, .ref hp), (1, .int (iZ dn))] → W p l e ({ frames := 1, cells := 0, slots := 0, locals := 26 } : Room) s m ([.ref hp] : List Value).toArray below meth c H locs 0 0 (MQ below (va_Qv (fun (u : (Int → Int64) × (Int → Int64)) => Rep u.1 (trP h pic)) (fun u => zB (dC, dI) vwCl [(cL, .long)] A [(hp, .inr (2, [.int (iZ h), .int (iZ w), .int (iZ mn), .ref hs, .ref hw, .ref hk])), (hs, .inl (cL, 16384, .inr (.inl (aL u.1)))), (hw, .inl (cL, 16384, .inr (.inl (aL G)))), (hk, .inl (cL, 64, .inr (.inl (aL u.2))))]) A) ([.ref hp] : List Value).toArray s 0 0 A) (F0 m 10 ls []) := by
    intro n_10
    induction n_10 with
    | zero => intro dn K C1 i1 i2 i3 hm; exact absurd hm (by omega)
    | succ n_10 ih_10 =>
      intro dn K C1 i1 i2 i3 hm_10 H locs hP hD hS ls hl
      refine lv_iload_n hx hb d_Pa_turnRight_10 rfl (lv_at hl 1 rfl) ?_
      refine lv_bipush (v := iZ (64)) hx hb d_Pa_turnRight_11 (by decide) ?_
      refine zi_mul hx hb d_Pa_turnRight_13 ?_
      refine lv_aload_n hx hb d_Pa_turnRight_14 rfl (lv_at hl 0 rfl) ?_
      refine va_get (D := (dC, dI)) (ci := 2) (v := .int (iZ h)) (C := R_Pa) (T := T_Pa) (N := 6) hx hb hts wi_Pa hown hK hP 0 rfl rfl 1 (by decide) (hts _ t_35) (fun _ h9 => h9) rfl d_Pa_turnRight_15 ?_
      refine zi_ge (tgt := 62) hx hb d_Pa_turnRight_18 (by decide) (by omega) (by omega) (by omega) (by omega) (fun c_18 => ?_) (fun c_18 => ?_)
      · refine lv_aload_n hx hb d_Pa_turnRight_62 rfl (lv_at hl 0 rfl) ?_
        refine va_get (D := (dC, dI)) (ci := 2) (v := .ref hs) (C := R_Pa) (T := T_Pa) (N := 6) hx hb hts wi_Pa hown hK hP 0 rfl rfl 4 (by decide) (hts _ t_40) (fun _ h9 => h9) rfl d_Pa_turnRight_63 ?_
        refine lv_astore_n (lv' := [(1, .ref hs), (0, .ref hp)]) hx hb d_Pa_turnRight_66 rfl hl (by decide) rfl (fun ls hl => ?_)
        refine lv_aload_n hx hb d_Pa_turnRight_67 rfl (lv_at hl 1 rfl) ?_
        refine lv_aload_n hx hb d_Pa_turnRight_68 rfl (lv_at hl 1 rfl) ?_
        refine va_get (D := (dC, dI)) (ci := 2) (v := .ref hw) (C := R_Pa) (T := T_Pa) (N := 6) hx hb hts wi_Pa hown hK hP 0 rfl rfl 3 (by decide) (hts _ t_39) (fun _ h9 => h9) rfl d_Pa_turnRight_69 ?_
        refine va_put (D := (dC, dI)) (ci := 2) (v := .ref hw) (ty := .array .long) (C := R_Pa) (T := T_Pa) (N := 6) hx hb hts wi_Pa ty_Pa ty_Pa_ok nd_Pa hown hK hP hD hS 0 rfl rfl 4 (by decide) (hts _ t_40) (fun _ h9 => h9) rfl (by decide +kernel) rfl rfl (Nat.le_of_ble_eq_true rfl) d_Pa_turnRight_72 (fun H locs hP hD hS => ?_)
        have hP : va_P (dC, dI) vwCl [(hp, .inr (2, [.int (iZ w), .int (iZ h), .int (iZ mn), .ref hw, .ref hw, .ref hk])), (hw, .inl (cL, 16384, .inr (.inl (aL G)))), (hs, .inl (cL, 16384, .inr (.inl (aL K)))), (hk, .inl (cL, 64, .inr (.inl (aL C1))))] H := hP
        have hD : va_D A [(hp, .inr (2, [.int (iZ w), .int (iZ h), .int (iZ mn), .ref hw, .ref hw, .ref hk])), (hw, .inl (cL, 16384, .inr (.inl (aL G)))), (hs, .inl (cL, 16384, .inr (.inl (aL K)))), (hk, .inl (cL, 64, .inr (.inl (aL C1))))] := hD
        refine lv_aload_n hx hb d_Pa_turnRight_75 rfl (lv_at hl 1 rfl) ?_
        refine lv_aload_n hx hb d_Pa_turnRight_76 rfl (lv_at hl 0 rfl) ?_
        refine va_put (D := (dC, dI)) (ci := 2) (v := .ref hs) (ty := .array .long) (C := R_Pa) (T := T_Pa) (N := 6) hx hb hts wi_Pa ty_Pa ty_Pa_ok nd_Pa hown hK hP hD hS 0 rfl rfl 3 (by decide) (hts _ t_39) (fun _ h9 => h9) rfl (by decide +kernel) rfl rfl (Nat.le_of_ble_eq_true rfl) d_Pa_turnRight_77 (fun H locs hP hD hS => ?_)
        have hP : va_P (dC, dI) vwCl [(hp, .inr (2, [.int (iZ w), .int (iZ h), .int (iZ mn), .ref hs, .ref hw, .ref hk])), (hw, .inl (cL, 16384, .inr (.inl (aL G)))), (hs, .inl (cL, 16384, .inr (.inl (aL K)))), (hk, .inl (cL, 64, .inr (.inl (aL C1))))] H := hP
        have hD : va_D A [(hp, .inr (2, [.int (iZ w), .int (iZ h), .int (iZ mn), .ref hs, .ref hw, .ref hk])), (hw, .inl (cL, 16384, .inr (.inl (aL G)))), (hs, .inl (cL, 16384, .inr (.inl (aL K)))), (hk, .inl (cL, 64, .inr (.inl (aL C1))))] := hD
        refine lv_aload_n hx hb d_Pa_turnRight_80 rfl (lv_at hl 1 rfl) ?_
        refine va_get (D := (dC, dI)) (ci := 2) (v := .int (iZ h)) (C := R_Pa) (T := T_Pa) (N := 6) hx hb hts wi_Pa hown hK hP 0 rfl rfl 1 (by decide) (hts _ t_35) (fun _ h9 => h9) rfl d_Pa_turnRight_81 ?_
        refine lv_istore_n (lv' := [(2, .int (iZ h)), (1, .ref hs), (0, .ref hp)]) hx hb d_Pa_turnRight_84 rfl hl (by decide) rfl (fun ls hl => ?_)
        refine lv_aload_n hx hb d_Pa_turnRight_85 rfl (lv_at hl 2 rfl) ?_
        refine lv_aload_n hx hb d_Pa_turnRight_86 rfl (lv_at hl 2 rfl) ?_
        refine va_get (D := (dC, dI)) (ci := 2) (v := .int (iZ w)) (C := R_Pa) (T := T_Pa) (N := 6) hx hb hts wi_Pa hown hK hP 0 rfl rfl 0 (by decide) (hts _ t_33) (fun _ h9 => h9) rfl d_Pa_turnRight_87 ?_
        refine va_put (D := (dC, dI)) (ci := 2) (v := .int (iZ w)) (ty := .int) (C := R_Pa) (T := T_Pa) (N := 6) hx hb hts wi_Pa ty_Pa ty_Pa_ok nd_Pa hown hK hP hD hS 0 rfl rfl 1 (by decide) (hts _ t_35) (fun _ h9 => h9) rfl (by decide +kernel) rfl rfl (Nat.le_of_ble_eq_true rfl) d_Pa_turnRight_90 (fun H locs hP hD hS => ?_)
        have hP : va_P (dC, dI) vwCl [(hp, .inr (2, [.int (iZ w), .int (iZ w), .int (iZ mn), .ref hs, .ref hw, .ref hk])), (hw, .inl (cL, 16384, .inr (.inl (aL G)))), (hs, .inl (cL, 16384, .inr (.inl (aL K)))), (hk, .inl (cL, 64, .inr (.inl (aL C1))))] H := hP
        have hD : va_D A [(hp, .inr (2, [.int (iZ w), .int (iZ w), .int (iZ mn), .ref hs, .ref hw, .ref hk])), (hw, .inl (cL, 16384, .inr (.inl (aL G)))), (hs, .inl (cL, 16384, .inr (.inl (aL K)))), (hk, .inl (cL, 64, .inr (.inl (aL C1))))] := hD
        refine lv_aload_n hx hb d_Pa_turnRight_93 rfl (lv_at hl 2 rfl) ?_
        refine lv_iload_n hx hb d_Pa_turnRight_94 rfl (lv_at hl 0 rfl) ?_
        refine va_put (D := (dC, dI)) (ci := 2) (v := .int (iZ h)) (ty := .int) (C := R_Pa) (T := T_Pa) (N := 6) hx hb hts wi_Pa ty_Pa ty_Pa_ok nd_Pa hown hK hP hD hS 0 rfl rfl 0 (by decide) (hts _ t_33) (fun _ h9 => h9) rfl (by decide +kernel) rfl rfl (Nat.le_of_ble_eq_true rfl) d_Pa_turnRight_95 (fun H locs hP hD hS => ?_)
        have hP : va_P (dC, dI) vwCl [(hp, .inr (2, [.int (iZ h), .int (iZ w), .int (iZ mn), .ref hs, .ref hw, .ref hk])), (hw, .inl (cL, 16384, .inr (.inl (aL G)))), (hs, .inl (cL, 16384, .inr (.inl (aL K)))), (hk, .inl (cL, 64, .inr (.inl (aL C1))))] H := hP
        have hD : va_D A [(hp, .inr (2, [.int (iZ h), .int (iZ w), .int (iZ mn), .ref hs, .ref hw, .ref hk])), (hw, .inl (cL, 16384, .inr (.inl (aL G)))), (hs, .inl (cL, 16384, .inr (.inl (aL K)))), (hk, .inl (cL, 64, .inr (.inl (aL C1))))] := hD
        have hP := hP.sub (ws' := [(hp, .inr (2, [.int (iZ h), .int (iZ w), .int (iZ mn), .ref hs, .ref hw, .ref hk])), (hs, .inl (cL, 16384, .inr (.inl (aL K)))), (hw, .inl (cL, 16384, .inr (.inl (aL G)))), (hk, .inl (cL, 64, .inr (.inl (aL C1))))]) [0, 2, 1, 3] rfl
        have hD := hD.sub (ws' := [(hp, .inr (2, [.int (iZ h), .int (iZ w), .int (iZ mn), .ref hs, .ref hw, .ref hk])), (hs, .inl (cL, 16384, .inr (.inl (aL K)))), (hw, .inl (cL, 16384, .inr (.inl (aL G)))), (hk, .inl (cL, 64, .inr (.inl (aL C1))))]) [0, 2, 1, 3] (by decide) rfl
        exact W.vret hx hb hr (fun t ht hW => ⟨⟨((K, C1)), rfl, tr_end hO (by omega) i3, by rw [ht]; exact hP, va_K.moved hW.alike hK, hD⟩, hS.F ht⟩) hS.2.2 d_Pa_turnRight_98
      · refine lv_iconst (v := iZ (0)) hx hb d_Pa_turnRight_21 rfl ?_
        refine lv_istore_n (lv' := [(2, .int (iZ 0)), (0, .ref hp), (1, .int (iZ dn))]) hx hb d_Pa_turnRight_22 rfl hl (by decide) rfl (fun ls hl => ?_)
        have LP_23 : ∀ (n_23 : Nat) (al : Int) (K2 : Int → Int64) (C2 : Int → Int64), (0 ≤ al) → (al ≤ 16) → (trI h pic K2 dn al) → (16 - al).toNat < n_23 → ∀ (H : Heap) (locs : List Loc), va_P (dC, dI) vwCl [(hp, .inr (2, [.int (iZ w), .int (iZ h), .int (iZ mn), .ref hw, .ref hs, .ref hk])), (hw, .inl (cL, 16384, .inr (.inl (aL G)))), (hs, .inl (cL, 16384, .inr (.inl (aL K2)))), (hk, .inl (cL, 64, .inr (.inl (aL C2))))] H → va_D A [(hp, .inr (2, [.int (iZ w), .int (iZ h), .int (iZ mn), .ref hw, .ref hs, .ref hk])), (hw, .inl (cL, 16384, .inr (.inl (aL G)))), (hs, .inl (cL, 16384, .inr (.inl (aL K2)))), (hk, .inl (cL, 64, .inr (.inl (aL C2))))] → va_S A s.heap H locs → ∀ (ls : Array Slot), lv_has ls 3 [(0, .ref hp), (1, .int (iZ dn)), (2, .int (iZ al))] → W p l e ({ frames := 1, cells := 0, slots := 0, locals := 26 } : Room) s m ([.ref hp] : List Value).toArray below meth c H locs 0 0 (MQ below (va_Qv (fun (u : (Int → Int64) × (Int → Int64)) => Rep u.1 (trP h pic)) (fun u => zB (dC, dI) vwCl [(cL, .long)] A [(hp, .inr (2, [.int (iZ h), .int (iZ w), .int (iZ mn), .ref hs, .ref hw, .ref hk])), (hs, .inl (cL, 16384, .inr (.inl (aL u.1)))), (hw, .inl (cL, 16384, .inr (.inl (aL G)))), (hk, .inl (cL, 64, .inr (.inl (aL u.2))))]) A) ([.ref hp] : List Value).toArray s 0 0 A) (F0 m 23 ls []) := by
          intro n_23
          induction n_23 with
          | zero => intro al K2 C2 j1 j2 j3 hm; exact absurd hm (by omega)
          | succ n_23 ih_23 =>
            intro al K2 C2 j1 j2 j3 hm_23 H locs hP hD hS ls hl
            refine lv_iload_n hx hb d_Pa_turnRight_23 rfl (lv_at hl 2 rfl) ?_
            refine lv_bipush (v := iZ (64)) hx hb d_Pa_turnRight_24 (by decide) ?_
            refine zi_mul hx hb d_Pa_turnRight_26 ?_
            refine lv_aload_n hx hb d_Pa_turnRight_27 rfl (lv_at hl 0 rfl) ?_
            refine va_get (D := (dC, dI)) (ci := 2) (v := .int (iZ w)) (C := R_Pa) (T := T_Pa) (N := 6) hx hb hts wi_Pa hown hK hP 0 rfl rfl 0 (by decide) (hts _ t_33) (fun _ h9 => h9) rfl d_Pa_turnRight_28 ?_
            refine zi_ge (tgt := 56) hx hb d_Pa_turnRight_31 (by decide) (by omega) (by omega) (by omega) (by omega) (fun c_31 => ?_) (fun c_31 => ?_)
            · refine lv_iinc (v := iZ (dn + 1)) (lv' := [(1, .int (iZ (dn + 1))), (0, .ref hp), (2, .int (iZ al))]) hx hb d_Pa_turnRight_56 hl (k := 1) rfl (iZ_add _ _) (by decide) rfl (fun ls hl => ?_)
              refine lv_goto (tgt := 10) hx hb d_Pa_turnRight_59 (by decide) ?_
              exact ih_10 (dn + 1) K2 C2 (by omega) (by omega) (tr_col hO (by omega) j3) (by omega) _ _ hP hD hS ls (lv_sub hl [1, 0] rfl)
            · refine lv_aload_n hx hb d_Pa_turnRight_34 rfl (lv_at hl 0 rfl) ?_
              refine lv_iload_n hx hb d_Pa_turnRight_35 rfl (lv_at hl 1 rfl) ?_
              refine lv_iload_n hx hb d_Pa_turnRight_36 rfl (lv_at hl 2 rfl) ?_
              refine zc_v (w1 := fun (u_37 : Int → Int64) => [(hp, .inr (2, [.int (iZ w), .int (iZ h), .int (iZ mn), .ref hw, .ref hs, .ref hk])), (hw, .inl (cL, 16384, .inr (.inl (aL G)))), (hk, .inl (cL, 64, .inr (.inl (aL u_37))))]) (wr := [(hs, .inl (cL, 16384, .inr (.inl (aL K2))))]) (va_runV (As := [.int (iZ dn), .int (iZ al)]) (rest := []) ⟨hx, hb, hml, hown, hts⟩ (c_Paper_takeBlock l dC dI hp hw hs hk cL w h mn G C2 dn al H.size (by first | omega | assumption) (by first | omega | assumption) (by first | omega | assumption) (by first | omega | assumption) (by first | omega | assumption) (by first | omega | assumption) (by first | omega | assumption) (by first | omega | assumption)) (cwV 2 hts (gV t_565 t_567 s_9 t_2 t_568) rfl rfl rfl (by decide +kernel) ⟨Nat.le_of_ble_eq_true rfl, Nat.le_of_ble_eq_true rfl⟩) ⟨zPm_blind, va_recv hK hP (ci := 2) (q0 := 0) rfl rfl, zPm_pre hP hD hK [0, 1, 3] [0] rfl rfl rfl rfl⟩ rfl rfl hl.1 rfl (lv_room (Nat.le_of_ble_eq_true rfl)) d_Pa_turnRight_37 ⟨Nat.le_of_ble_eq_true rfl, Nat.le_of_ble_eq_true rfl⟩) hP hD hS hA [0, 1, 3] [2] rfl rfl rfl (by decide) (fun u_37 H locs q_37 hP hD hS => ?_)
              have hP : va_P (dC, dI) vwCl [(hs, .inl (cL, 16384, .inr (.inl (aL K2)))), (hp, .inr (2, [.int (iZ w), .int (iZ h), .int (iZ mn), .ref hw, .ref hs, .ref hk])), (hw, .inl (cL, 16384, .inr (.inl (aL G)))), (hk, .inl (cL, 64, .inr (.inl (aL u_37))))] H := hP
              have hD : va_D A [(hs, .inl (cL, 16384, .inr (.inl (aL K2)))), (hp, .inr (2, [.int (iZ w), .int (iZ h), .int (iZ mn), .ref hw, .ref hs, .ref hk])), (hw, .inl (cL, 16384, .inr (.inl (aL G)))), (hk, .inl (cL, 64, .inr (.inl (aL u_37))))] := hD
              refine lv_aload_n hx hb d_Pa_turnRight_40 rfl (lv_at hl 0 rfl) ?_
              refine zc_v (w1 := fun (u_41 : Int → Int64) => [(hp, .inr (2, [.int (iZ w), .int (iZ h), .int (iZ mn), .ref hw, .ref hs, .ref hk])), (hk, .inl (cL, 64, .inr (.inl (aL u_41))))]) (wr := [(hs, .inl (cL, 16384, .inr (.inl (aL K2)))), (hw, .inl (cL, 16384, .inr (.inl (aL G))))]) (va_runV (As := []) (rest := []) ⟨hx, hb, hml, hown, hts⟩ (c_Paper_transposeBlock l dC dI hp hw hs hk cL w h mn u_37 H.size ) (cwV 0 hts (gV t_569 t_571 s_10 t_2 t_572) rfl rfl rfl (by decide +kernel) ⟨Nat.le_of_ble_eq_true rfl, Nat.le_of_ble_eq_true rfl⟩) ⟨zPm_blind, va_recv hK hP (ci := 2) (q0 := 1) rfl rfl, zPm_pre hP hD hK [1, 3] [0] rfl rfl rfl rfl⟩ rfl rfl hl.1 rfl (lv_room (Nat.le_of_ble_eq_true rfl)) d_Pa_turnRight_41 ⟨Nat.le_of_ble_eq_true rfl, Nat.le_of_ble_eq_true rfl⟩) hP hD hS hA [1, 3] [0, 2] rfl rfl rfl (by decide) (fun u_41 H locs q_41 hP hD hS => ?_)
              have hP : va_P (dC, dI) vwCl [(hs, .inl (cL, 16384, .inr (.inl (aL K2)))), (hw, .inl (cL, 16384, .inr (.inl (aL G)))), (hp, .inr (2, [.int (iZ w), .int (iZ h), .int (iZ mn), .ref hw, .ref hs, .ref hk])), (hk, .inl (cL, 64, .inr (.inl (aL u_41))))] H := hP
              have hD : va_D A [(hs, .inl (cL, 16384, .inr (.inl (aL K2)))), (hw, .inl (cL, 16384, .inr (.inl (aL G)))), (hp, .inr (2, [.int (iZ w), .int (iZ h), .int (iZ mn), .ref hw, .ref hs, .ref hk])), (hk, .inl (cL, 64, .inr (.inl (aL u_41))))] := hD
              refine lv_aload_n hx hb d_Pa_turnRight_44 rfl (lv_at hl 0 rfl) ?_
              refine lv_iload_n hx hb d_Pa_turnRight_45 rfl (lv_at hl 2 rfl) ?_
              refine lv_iload_n hx hb d_Pa_turnRight_46 rfl (lv_at hl 1 rfl) ?_
              refine zc_v (w1 := fun (u_47 : Int → Int64) => [(hp, .inr (2, [.int (iZ w), .int (iZ h), .int (iZ mn), .ref hw, .ref hs, .ref hk])), (hs, .inl (cL, 16384, .inr (.inl (aL u_47)))), (hk, .inl (cL, 64, .inr (.inl (aL u_41))))]) (wr := [(hw, .inl (cL, 16384, .inr (.inl (aL G))))]) (va_runV (As := [.int (iZ al), .int (iZ dn)]) (rest := []) ⟨hx, hb, hml, hown, hts⟩ (c_Paper_putBlock l dC dI hp hw hs hk cL w h mn K2 u_41 al dn H.size (by first | omega | assumption) (by first | omega | assumption) (by first | omega | assumption) (by first | omega | assumption)) (cwV 2 hts (gV t_574 t_576 s_11 t_2 t_577) rfl rfl rfl (by decide +kernel) ⟨Nat.le_of_ble_eq_true rfl, Nat.le_of_ble_eq_true rfl⟩) ⟨zPm_blind, va_recv hK hP (ci := 2) (q0 := 2) rfl rfl, zPm_pre hP hD hK [2, 0, 3] [0] rfl rfl rfl rfl⟩ rfl rfl hl.1 rfl (lv_room (Nat.le_of_ble_eq_true rfl)) d_Pa_turnRight_47 ⟨Nat.le_of_ble_eq_true rfl, Nat.le_of_ble_eq_true rfl⟩) hP hD hS hA [2, 0, 3] [1] rfl rfl rfl (by decide) (fun u_47 H locs q_47 hP hD hS => ?_)
              have hP : va_P (dC, dI) vwCl [(hw, .inl (cL, 16384, .inr (.inl (aL G)))), (hp, .inr (2, [.int (iZ w), .int (iZ h), .int (iZ mn), .ref hw, .ref hs, .ref hk])), (hs, .inl (cL, 16384, .inr (.inl (aL u_47)))), (hk, .inl (cL, 64, .inr (.inl (aL u_41))))] H := hP
              have hD : va_D A [(hw, .inl (cL, 16384, .inr (.inl (aL G)))), (hp, .inr (2, [.int (iZ w), .int (iZ h), .int (iZ mn), .ref hw, .ref hs, .ref hk])), (hs, .inl (cL, 16384, .inr (.inl (aL u_47)))), (hk, .inl (cL, 64, .inr (.inl (aL u_41))))] := hD
              refine lv_iinc (v := iZ (al + 1)) (lv' := [(2, .int (iZ (al + 1))), (0, .ref hp), (1, .int (iZ dn))]) hx hb d_Pa_turnRight_50 hl (k := 2) rfl (iZ_add _ _) (by decide) rfl (fun ls hl => ?_)
              refine lv_goto (tgt := 23) hx hb d_Pa_turnRight_53 (by decide) ?_
              exact ih_23 (al + 1) u_47 u_41 (by omega) (by omega) (tr_step hR hO h2 i1 (by omega) j1 (by omega) q_37 q_41 q_47 j3) (by omega) _ _ (hP.sub (ws' := [(hp, .inr (2, [.int (iZ w), .int (iZ h), .int (iZ mn), .ref hw, .ref hs, .ref hk])), (hw, .inl (cL, 16384, .inr (.inl (aL G)))), (hs, .inl (cL, 16384, .inr (.inl (aL u_47)))), (hk, .inl (cL, 64, .inr (.inl (aL u_41))))]) [1, 0, 2, 3] rfl) (hD.sub (ws' := [(hp, .inr (2, [.int (iZ w), .int (iZ h), .int (iZ mn), .ref hw, .ref hs, .ref hk])), (hw, .inl (cL, 16384, .inr (.inl (aL G)))), (hs, .inl (cL, 16384, .inr (.inl (aL u_47)))), (hk, .inl (cL, 64, .inr (.inl (aL u_41))))]) [1, 0, 2, 3] (by decide) rfl) hS ls (lv_sub hl [1, 2, 0] rfl)
        exact LP_23 _ 0 K C1 (by omega) (by omega) (by omega) (Nat.lt_succ_self _) _ _ hP hD hS ls (lv_sub hl [1, 2, 0] rfl)
  exact LP_10 _ 0 u_5 Bk (by omega) (by omega) (tr_0 q_5) (Nat.lt_succ_self _) _ _ (hP.sub (ws' := [(hp, .inr (2, [.int (iZ w), .int (iZ h), .int (iZ mn), .ref hw, .ref hs, .ref hk])), (hw, .inl (cL, 16384, .inr (.inl (aL G)))), (hs, .inl (cL, 16384, .inr (.inl (aL u_5)))), (hk, .inl (cL, 64, .inr (.inl (aL Bk))))]) [0, 1, 3, 2] rfl) (hD.sub (ws' := [(hp, .inr (2, [.int (iZ w), .int (iZ h), .int (iZ mn), .ref hw, .ref hs, .ref hk])), (hw, .inl (cL, 16384, .inr (.inl (aL G)))), (hs, .inl (cL, 16384, .inr (.inl (aL u_5)))), (hk, .inl (cL, 64, .inr (.inl (aL Bk))))]) [0, 1, 3, 2] (by decide) rfl) hS ls (lv_sub hl [1, 0] rfl)
theorem d_D_turn_0 : decode c_yD_turn 0 = .ok (.iload_n 1, 1) := by decide +kernel
theorem d_D_turn_1 : decode c_yD_turn 1 = .ok (.invokestatic 174, 3) := by decide +kernel
theorem d_D_turn_4 : decode c_yD_turn 4 = .ok (.invokestatic 43, 3) := by decide +kernel
theorem d_D_turn_7 : decode c_yD_turn 7 = .ok (.iconst 0, 1) := by decide +kernel
theorem d_D_turn_8 : decode c_yD_turn 8 = .ok (.istore_n 2, 1) := by decide +kernel
theorem d_D_turn_9 : decode c_yD_turn 9 = .ok (.iload_n 2, 1) := by decide +kernel
theorem d_D_turn_10 : decode c_yD_turn 10 = .ok (.iload_n 1, 1) := by decide +kernel
theorem d_D_turn_11 : decode c_yD_turn 11 = .ok (.if_icmp .ge 16, 3) := by decide +kernel
theorem d_D_turn_14 : decode c_yD_turn 14 = .ok (.aload_n 0, 1) := by decide +kernel
theorem d_D_turn_15 : decode c_yD_turn 15 = .ok (.getfield 10, 3) := by decide +kernel
theorem d_D_turn_18 : decode c_yD_turn 18 = .ok (.invokevirtual 177, 3) := by decide +kernel
theorem d_D_turn_21 : decode c_yD_turn 21 = .ok (.iinc 2 1, 3) := by decide +kernel
theorem d_D_turn_24 : decode c_yD_turn 24 = .ok (.goto (-15), 3) := by decide +kernel
theorem d_D_turn_27 : decode c_yD_turn 27 = .ok (.return_, 1) := by decide +kernel
set_option maxHeartbeats 4000000 in
set_option maxRecDepth 100000 in
theorem c_DotSheet_turn (l : Launch) (hnt : l.stackTraces = false) (dC : Nat → ClassId) (dI : Nat → Nat → Nat) (sa : Nat → Nat) (hx_ hst hd hfa hp hw hs hk : Nat) (cL : ClassId) (w h mn : Int) (G : Int → Int64) (pic : Int → Int → Bool) (Sp Bk : Int → Int64) (qr : Int) (sz : Nat) (w1 : 1 ≤ w) (w2 : w ≤ 1024) (h1 : 1 ≤ h) (h2 : h ≤ 1024) (hR : Rep G pic) (hO : Off w h pic) (qr1 : -2147483648 ≤ qr) (qr2 : qr ≤ 2147483647) : vx_Met l y_D_turn w_D_turn ({ frames := 7, cells := 1, slots := 6, locals := 120 }) (va_Pc [.ref hx_, .int (iZ qr)] (zPx (dC, dI) vwCl [(hx_, .inr (4, [.ref hp, .ref hst, .ref hd, .ref hfa])), (hp, .inr (2, [.int (iZ w), .int (iZ h), .int (iZ mn), .ref hw, .ref hs, .ref hk])), (hw, .inl (cL, 16384, .inr (.inl (aL G)))), (hs, .inl (cL, 16384, .inr (.inl (aL Sp)))), (hk, .inl (cL, 64, .inr (.inl (aL Bk))))] [(cL, .long)] sz sa)) (va_Qv (fun (u : Int × Int × Nat × Nat × (Int → Int64) × (Int → Int64) × (Int → Int64)) => (0 ≤ qr ∧ qr ≤ 3) ∧ u.1 = (trN w h pic qr.toNat).1 ∧ u.2.1 = (trN w h pic qr.toNat).2.1 ∧ Rep u.2.2.2.2.1 (trN w h pic qr.toNat).2.2) (fun u => zB (dC, dI) vwCl [(cL, .long)] (va_A [(hx_, .inr (4, [.ref hp, .ref hst, .ref hd, .ref hfa])), (hp, .inr (2, [.int (iZ w), .int (iZ h), .int (iZ mn), .ref hw, .ref hs, .ref hk])), (hw, .inl (cL, 16384, .inr (.inl (aL G)))), (hs, .inl (cL, 16384, .inr (.inl (aL Sp)))), (hk, .inl (cL, 64, .inr (.inl (aL Bk))))] sz) [(hx_, .inr (4, [.ref hp, .ref hst, .ref hd, .ref hfa])), (hp, .inr (2, [.int (iZ u.1), .int (iZ u.2.1), .int (iZ mn), .ref u.2.2.1, .ref u.2.2.2.1, .ref hk])), (u.2.2.1, .inl (cL, 16384, .inr (.inl (aL u.2.2.2.2.1)))), (u.2.2.2.1, .inl (cL, 16384, .inr (.inl (aL u.2.2.2.2.2.1)))), (hk, .inl (cL, 64, .inr (.inl (aL u.2.2.2.2.2.2))))]) (va_A [(hx_, .inr (4, [.ref hp, .ref hst, .ref hd, .ref hfa])), (hp, .inr (2, [.int (iZ w), .int (iZ h), .int (iZ mn), .ref hw, .ref hs, .ref hk])), (hw, .inl (cL, 16384, .inr (.inl (aL G)))), (hs, .inl (cL, 16384, .inr (.inl (aL Sp)))), (hk, .inl (cL, 64, .inr (.inl (aL Bk))))] sz)) (zX (fun E => E = "java/lang/IllegalArgumentException" ∧ ¬ (0 ≤ qr ∧ qr ≤ 3)) (dC, dI) vwCl [(cL, .long)] (va_A [(hx_, .inr (4, [.ref hp, .ref hst, .ref hd, .ref hfa])), (hp, .inr (2, [.int (iZ w), .int (iZ h), .int (iZ mn), .ref hw, .ref hs, .ref hk])), (hw, .inl (cL, 16384, .inr (.inl (aL G)))), (hs, .inl (cL, 16384, .inr (.inl (aL Sp)))), (hk, .inl (cL, 64, .inr (.inl (aL Bk))))] sz) [(hx_, .inr (4, [.ref hp, .ref hst, .ref hd, .ref hfa])), (hp, .inr (2, [.int (iZ w), .int (iZ h), .int (iZ mn), .ref hw, .ref hs, .ref hk])), (hw, .inl (cL, 16384, .inr (.inl (aL G)))), (hs, .inl (cL, 16384, .inr (.inl (aL Sp)))), (hk, .inl (cL, 64, .inr (.inl (aL Bk))))]) 1 6 (va_A [(hx_, .inr (4, [.ref hp, .ref hst, .ref hd, .ref hfa])), (hp, .inr (2, [.int (iZ w), .int (iZ h), .int (iZ mn), .ref hw, .ref hs, .ref hk])), (hw, .inl (cL, 16384, .inr (.inl (aL G)))), (hs, .inl (cL, 16384, .inr (.inl (aL Sp)))), (hk, .inl (cL, 64, .inr (.inl (aL Bk))))] sz) := by
  refine vx_ofW (cc := c_yD_turn) (maxL := 3) (ret := none) (by decide) rfl ?_
  intro p e s m args below meth c s₁ B hml noEx hv
  obtain ⟨rfl, hsz, hP, hK, hD0, hXK⟩ := hv
  have hx := B.exec
  have hb := B.bytes
  have hr := B.returns
  have hts0 := atoms_spec (ws := w_D_turn) B.pre
  have hts : ∀ w ∈ gT, w.before _ s = true := fun w h => hts0 w (List.mem_cons_of_mem _ h)
  have hown : s.vm.findClass R_D = some m.cls := findClass_of_methodNamed B.named
  have hlocks := B.notSynchronized
  subst hsz
  have hD := hD0.self (sz := s.heap.size)
  generalize hAe : va_A [(hx_, .inr (4, [.ref hp, .ref hst, .ref hd, .ref hfa])), (hp, .inr (2, [.int (iZ w), .int (iZ h), .int (iZ mn), .ref hw, .ref hs, .ref hk])), (hw, .inl (cL, 16384, .inr (.inl (aL G)))), (hs, .inl (cL, 16384, .inr (.inl (aL Sp)))), (hk, .inl (cL, 64, .inr (.inl (aL Bk))))] s.heap.size = A at hD hXK ⊢
  have hA : ∀ q : Nat, s.heap.size ≤ q → A q := fun q h => by rw [← hAe]; exact Or.inr h
  obtain ⟨H, hH⟩ : ∃ H, s.heap = H := ⟨_, rfl⟩
  have hS : va_S A s.heap H [] := by rw [← hH]; exact va_S.rf
  rw [hH] at hP
  rw [hH]
  have hl := lv_entry ([.ref hx_, .int (iZ qr)]) (n := 3) (Nat.le_of_ble_eq_true rfl)
  rw [lg_entry_eq]
  generalize (lg_sl ([.ref hx_, .int (iZ qr)]) ++ List.replicate (3 - (lg_sl ([.ref hx_, .int (iZ qr)])).length) Slot.unset).toArray = ls at hl ⊢
  have hl : lv_has ls 3 [(0, .ref hx_), (1, .int (iZ qr))] := hl
  refine lv_iload_n hx hb d_D_turn_0 rfl (lv_at hl 1 rfl) ?_
  refine vp_callSi (va_runS (As := [.int (iZ qr)]) (rest := []) ⟨hx, hb, hml, hown, hts⟩ (c_DotSheet_isQuarter l dC dI qr (by first | omega | assumption) (by first | omega | assumption)) (va_cwS 1 hts (gS t_470 t_471 t_1 t_472) rfl rfl rfl (by decide +kernel) ⟨Nat.le_of_ble_eq_true rfl, Nat.le_of_ble_eq_true rfl⟩) ⟨zPr_blind, zPr_pre hP hK [] [] rfl rfl⟩ rfl rfl hl.1 rfl (lv_room (Nat.le_of_ble_eq_true rfl)) d_D_turn_1 ⟨Nat.le_of_ble_eq_true rfl, Nat.le_of_ble_eq_true rfl⟩).run (fun r_1 q_1 => ?_)
  obtain rfl := q_1
  refine zx_v (w1 := fun (u_4 : Unit) => []) (wr := [(hx_, .inr (4, [.ref hp, .ref hst, .ref hd, .ref hfa])), (hp, .inr (2, [.int (iZ w), .int (iZ h), .int (iZ mn), .ref hw, .ref hs, .ref hk])), (hw, .inl (cL, 16384, .inr (.inl (aL G)))), (hs, .inl (cL, 16384, .inr (.inl (aL Sp)))), (hk, .inl (cL, 64, .inr (.inl (aL Bk))))]) (vx_runS (As := [.int (bI (decide (0 ≤ qr ∧ qr ≤ 3)))]) (rest := []) ⟨hx, hb, hml, hown, hts⟩ (c_DotSheet_demand l hnt dC dI sa (decide (0 ≤ qr ∧ qr ≤ 3)) H.size ) (va_cwS 1 hts (gS t_154 t_155 t_1 t_156) rfl rfl rfl (by decide +kernel) ⟨Nat.le_of_ble_eq_true rfl, Nat.le_of_ble_eq_true rfl⟩) ⟨zPx_blind, zPx_pre hP hD hK hXK hS hA [] [] rfl rfl rfl rfl⟩ rfl rfl hl.1 rfl (lv_room (Nat.le_of_ble_eq_true rfl)) d_D_turn_4 ⟨Nat.le_of_ble_eq_true rfl, Nat.le_of_ble_eq_true rfl⟩) hP hD hS hA [] [0, 1, 2, 3, 4] rfl rfl rfl (by decide) (fun E_ ce_ q9_ H locs x_4 hP hD hS hce hcv hcl => ?_) (fun u_4 H locs q_4 hP hD hS => ?_)
  · have hP : va_P (dC, dI) vwCl [(hx_, .inr (4, [.ref hp, .ref hst, .ref hd, .ref hfa])), (hp, .inr (2, [.int (iZ w), .int (iZ h), .int (iZ mn), .ref hw, .ref hs, .ref hk])), (hw, .inl (cL, 16384, .inr (.inl (aL G)))), (hs, .inl (cL, 16384, .inr (.inl (aL Sp)))), (hk, .inl (cL, 64, .inr (.inl (aL Bk))))] H := hP
    have hD : va_D A [(hx_, .inr (4, [.ref hp, .ref hst, .ref hd, .ref hfa])), (hp, .inr (2, [.int (iZ w), .int (iZ h), .int (iZ mn), .ref hw, .ref hs, .ref hk])), (hw, .inl (cL, 16384, .inr (.inl (aL G)))), (hs, .inl (cL, 16384, .inr (.inl (aL Sp)))), (hk, .inl (cL, 64, .inr (.inl (aL Bk))))] := hD
    exact vx_out (fun x9 h9 => (noEx x9 h9).elim) hlocks hce hcv hcl (fun t ht ha => ⟨(), trivial, ⟨⟨x_4.1, by have z9 := of_decide_eq_false x_4.2; omega⟩, by rw [ht]; exact hP, va_K.moved ha hK, hD⟩, hS.F ht⟩) hS.2.2 (Nat.le_of_ble_eq_true rfl) (Nat.le_of_ble_eq_true rfl)
  have hP : va_P (dC, dI) vwCl [(hx_, .inr (4, [.ref hp, .ref hst, .ref hd, .ref hfa])), (hp, .inr (2, [.int (iZ w), .int (iZ h), .int (iZ mn), .ref hw, .ref hs, .ref hk])), (hw, .inl (cL, 16384, .inr (.inl (aL G)))), (hs, .inl (cL, 16384, .inr (.inl (aL Sp)))), (hk, .inl (cL, 64, .inr (.inl (aL Bk))))] H := hP
  have hD : va_D A [(hx_, .inr (4, [.ref hp, .ref hst, .ref hd, .ref hfa])), (hp, .inr (2, [.int (iZ w), .int (iZ h), .int (iZ mn), .ref hw, .ref hs, .ref hk])), (hw, .inl (cL, 16384, .inr (.inl (aL G)))), (hs, .inl (cL, 16384, .inr (.inl (aL Sp)))), (hk, .inl (cL, 64, .inr (.inl (aL Bk))))] := hD
  have q_4 := of_decide_eq_true q_4
  refine lv_iconst (v := iZ (0)) hx hb d_D_turn_7 rfl ?_
  refine lv_istore_n (lv' := [(2, .int (iZ 0)), (0, .ref hx_), (1, .int (iZ qr))]) hx hb d_D_turn_8 rfl hl (by decide) rfl (fun ls hl => ?_)
  refine lv_iload_n hx hb d_D_turn_9 rfl (lv_at hl 0 rfl) ?_
  refine lv_iload_n hx hb d_D_turn_10 rfl (lv_at hl 2 rfl) ?_
  refine zi_ge (tgt := 27) hx hb d_D_turn_11 (by decide) (by omega) (by omega) (by omega) (by omega) (fun c_11 => ?_) (fun c_11 => ?_)
  · refine vx_ret ?_
    exact W.vret hx hb hr (fun t ht hW => ⟨⟨((w, h, hw, hs, G, Sp, Bk)), rfl, ⟨by omega, by rw [show qr.toNat = 0 by omega]; rfl, by rw [show qr.toNat = 0 by omega]; rfl, by rw [show qr.toNat = 0 by omega]; exact hR⟩, by rw [ht]; exact hP, va_K.moved hW.alike hK, hD⟩, hS.F ht⟩) hS.2.2 d_D_turn_27
  · refine lv_aload_n hx hb d_D_turn_14 rfl (lv_at hl 1 rfl) ?_
    refine va_get (D := (dC, dI)) (ci := 4) (v := .ref hp) (C := R_D) (T := T_D) (N := 4) hx hb hts wi_D hown hK hP 0 rfl rfl 0 (by decide) (hts _ t_126) (fun _ h9 => h9) rfl d_D_turn_15 ?_
    refine zc_v (w1 := fun (u_18 : (Int → Int64) × (Int → Int64)) => [(hp, .inr (2, [.int (iZ h), .int (iZ w), .int (iZ mn), .ref hs, .ref hw, .ref hk])), (hs, .inl (cL, 16384, .inr (.inl (aL u_18.1)))), (hw, .inl (cL, 16384, .inr (.inl (aL G)))), (hk, .inl (cL, 64, .inr (.inl (aL u_18.2))))]) (wr := [(hx_, .inr (4, [.ref hp, .ref hst, .ref hd, .ref hfa]))]) (va_runV (As := []) (rest := []) ⟨hx, hb, hml, hown, hts⟩ (c_Paper_turnRight l dC dI hp hw hs hk cL w h mn G pic Sp Bk H.size (by first | omega | assumption) (by first | omega | assumption) (by first | omega | assumption) (by first | omega | assumption) (hR) (hO)) (cwV 0 hts (gV t_561 t_562 t_563 t_2 t_564) rfl rfl rfl (by decide +kernel) ⟨Nat.le_of_ble_eq_true rfl, Nat.le_of_ble_eq_true rfl⟩) ⟨zPm_blind, va_recv hK hP (ci := 2) (q0 := 1) rfl rfl, zPm_pre hP hD hK [1, 2, 3, 4] [0] rfl rfl rfl rfl⟩ rfl rfl hl.1 rfl (lv_room (Nat.le_of_ble_eq_true rfl)) d_D_turn_18 ⟨Nat.le_of_ble_eq_true rfl, Nat.le_of_ble_eq_true rfl⟩) hP hD hS hA [1, 2, 3, 4] [0] rfl rfl rfl (by decide) (fun u_18 H locs q_18 hP hD hS => ?_)
    have hP : va_P (dC, dI) vwCl [(hx_, .inr (4, [.ref hp, .ref hst, .ref hd, .ref hfa])), (hp, .inr (2, [.int (iZ h), .int (iZ w), .int (iZ mn), .ref hs, .ref hw, .ref hk])), (hs, .inl (cL, 16384, .inr (.inl (aL u_18.1)))), (hw, .inl (cL, 16384, .inr (.inl (aL G)))), (hk, .inl (cL, 64, .inr (.inl (aL u_18.2))))] H := hP
    have hD : va_D A [(hx_, .inr (4, [.ref hp, .ref hst, .ref hd, .ref hfa])), (hp, .inr (2, [.int (iZ h), .int (iZ w), .int (iZ mn), .ref hs, .ref hw, .ref hk])), (hs, .inl (cL, 16384, .inr (.inl (aL u_18.1)))), (hw, .inl (cL, 16384, .inr (.inl (aL G)))), (hk, .inl (cL, 64, .inr (.inl (aL u_18.2))))] := hD
    refine lv_iinc (v := iZ (0 + 1)) (lv' := [(2, .int (iZ (0 + 1))), (0, .ref hx_), (1, .int (iZ qr))]) hx hb d_D_turn_21 hl (k := 0) rfl (iZ_add _ _) (by decide) rfl (fun ls hl => ?_)
    refine lv_goto (tgt := 9) hx hb d_D_turn_24 (by decide) ?_
    refine lv_iload_n hx hb d_D_turn_9 rfl (lv_at hl 0 rfl) ?_
    refine lv_iload_n hx hb d_D_turn_10 rfl (lv_at hl 2 rfl) ?_
    refine zi_ge (tgt := 27) hx hb d_D_turn_11 (by decide) (by omega) (by omega) (by omega) (by omega) (fun c_11 => ?_) (fun c_11 => ?_)
    · refine vx_ret ?_
      exact W.vret hx hb hr (fun t ht hW => ⟨⟨((h, w, hs, hw, u_18.1, G, u_18.2)), rfl, ⟨by omega, by rw [show qr.toNat = 1 by omega]; rfl, by rw [show qr.toNat = 1 by omega]; rfl, by rw [show qr.toNat = 1 by omega]; exact q_18⟩, by rw [ht]; exact hP, va_K.moved hW.alike hK, hD⟩, hS.F ht⟩) hS.2.2 d_D_turn_27
    · refine lv_aload_n hx hb d_D_turn_14 rfl (lv_at hl 1 rfl) ?_
      refine va_get (D := (dC, dI)) (ci := 4) (v := .ref hp) (C := R_D) (T := T_D) (N := 4) hx hb hts wi_D hown hK hP 0 rfl rfl 0 (by decide) (hts _ t_126) (fun _ h9 => h9) rfl d_D_turn_15 ?_
      refine zc_v (w1 := fun (u_18_1 : (Int → Int64) × (Int → Int64)) => [(hp, .inr (2, [.int (iZ w), .int (iZ h), .int (iZ mn), .ref hw, .ref hs, .ref hk])), (hw, .inl (cL, 16384, .inr (.inl (aL u_18_1.1)))), (hs, .inl (cL, 16384, .inr (.inl (aL u_18.1)))), (hk, .inl (cL, 64, .inr (.inl (aL u_18_1.2))))]) (wr := [(hx_, .inr (4, [.ref hp, .ref hst, .ref hd, .ref hfa]))]) (va_runV (As := []) (rest := []) ⟨hx, hb, hml, hown, hts⟩ (c_Paper_turnRight l dC dI hp hs hw hk cL h w mn u_18.1 (trP h pic) G u_18.2 H.size (by first | omega | assumption) (by first | omega | assumption) (by first | omega | assumption) (by first | omega | assumption) (q_18) (tr_off hO)) (cwV 0 hts (gV t_561 t_562 t_563 t_2 t_564) rfl rfl rfl (by decide +kernel) ⟨Nat.le_of_ble_eq_true rfl, Nat.le_of_ble_eq_true rfl⟩) ⟨zPm_blind, va_recv hK hP (ci := 2) (q0 := 1) rfl rfl, zPm_pre hP hD hK [1, 2, 3, 4] [0] rfl rfl rfl rfl⟩ rfl rfl hl.1 rfl (lv_room (Nat.le_of_ble_eq_true rfl)) d_D_turn_18 ⟨Nat.le_of_ble_eq_true rfl, Nat.le_of_ble_eq_true rfl⟩) hP hD hS hA [1, 2, 3, 4] [0] rfl rfl rfl (by decide) (fun u_18_1 H locs q_18_1 hP hD hS => ?_)
      have hP : va_P (dC, dI) vwCl [(hx_, .inr (4, [.ref hp, .ref hst, .ref hd, .ref hfa])), (hp, .inr (2, [.int (iZ w), .int (iZ h), .int (iZ mn), .ref hw, .ref hs, .ref hk])), (hw, .inl (cL, 16384, .inr (.inl (aL u_18_1.1)))), (hs, .inl (cL, 16384, .inr (.inl (aL u_18.1)))), (hk, .inl (cL, 64, .inr (.inl (aL u_18_1.2))))] H := hP
      have hD : va_D A [(hx_, .inr (4, [.ref hp, .ref hst, .ref hd, .ref hfa])), (hp, .inr (2, [.int (iZ w), .int (iZ h), .int (iZ mn), .ref hw, .ref hs, .ref hk])), (hw, .inl (cL, 16384, .inr (.inl (aL u_18_1.1)))), (hs, .inl (cL, 16384, .inr (.inl (aL u_18.1)))), (hk, .inl (cL, 64, .inr (.inl (aL u_18_1.2))))] := hD
      refine lv_iinc (v := iZ ((0 + 1) + 1)) (lv' := [(2, .int (iZ ((0 + 1) + 1))), (0, .ref hx_), (1, .int (iZ qr))]) hx hb d_D_turn_21 hl (k := 0) rfl (iZ_add _ _) (by decide) rfl (fun ls hl => ?_)
      refine lv_goto (tgt := 9) hx hb d_D_turn_24 (by decide) ?_
      refine lv_iload_n hx hb d_D_turn_9 rfl (lv_at hl 0 rfl) ?_
      refine lv_iload_n hx hb d_D_turn_10 rfl (lv_at hl 2 rfl) ?_
      refine zi_ge (tgt := 27) hx hb d_D_turn_11 (by decide) (by omega) (by omega) (by omega) (by omega) (fun c_11 => ?_) (fun c_11 => ?_)
      · refine vx_ret ?_
        exact W.vret hx hb hr (fun t ht hW => ⟨⟨((w, h, hw, hs, u_18_1.1, u_18.1, u_18_1.2)), rfl, ⟨by omega, by rw [show qr.toNat = 2 by omega]; rfl, by rw [show qr.toNat = 2 by omega]; rfl, by rw [show qr.toNat = 2 by omega]; exact q_18_1⟩, by rw [ht]; exact hP, va_K.moved hW.alike hK, hD⟩, hS.F ht⟩) hS.2.2 d_D_turn_27
      · refine lv_aload_n hx hb d_D_turn_14 rfl (lv_at hl 1 rfl) ?_
        refine va_get (D := (dC, dI)) (ci := 4) (v := .ref hp) (C := R_D) (T := T_D) (N := 4) hx hb hts wi_D hown hK hP 0 rfl rfl 0 (by decide) (hts _ t_126) (fun _ h9 => h9) rfl d_D_turn_15 ?_
        refine zc_v (w1 := fun (u_18_2 : (Int → Int64) × (Int → Int64)) => [(hp, .inr (2, [.int (iZ h), .int (iZ w), .int (iZ mn), .ref hs, .ref hw, .ref hk])), (hs, .inl (cL, 16384, .inr (.inl (aL u_18_2.1)))), (hw, .inl (cL, 16384, .inr (.inl (aL u_18_1.1)))), (hk, .inl (cL, 64, .inr (.inl (aL u_18_2.2))))]) (wr := [(hx_, .inr (4, [.ref hp, .ref hst, .ref hd, .ref hfa]))]) (va_runV (As := []) (rest := []) ⟨hx, hb, hml, hown, hts⟩ (c_Paper_turnRight l dC dI hp hw hs hk cL w h mn u_18_1.1 (trP w (trP h pic)) u_18.1 u_18_1.2 H.size (by first | omega | assumption) (by first | omega | assumption) (by first | omega | assumption) (by first | omega | assumption) (q_18_1) (tr_off (tr_off hO))) (cwV 0 hts (gV t_561 t_562 t_563 t_2 t_564) rfl rfl rfl (by decide +kernel) ⟨Nat.le_of_ble_eq_true rfl, Nat.le_of_ble_eq_true rfl⟩) ⟨zPm_blind, va_recv hK hP (ci := 2) (q0 := 1) rfl rfl, zPm_pre hP hD hK [1, 2, 3, 4] [0] rfl rfl rfl rfl⟩ rfl rfl hl.1 rfl (lv_room (Nat.le_of_ble_eq_true rfl)) d_D_turn_18 ⟨Nat.le_of_ble_eq_true rfl, Nat.le_of_ble_eq_true rfl⟩) hP hD hS hA [1, 2, 3, 4] [0] rfl rfl rfl (by decide) (fun u_18_2 H locs q_18_2 hP hD hS => ?_)
        have hP : va_P (dC, dI) vwCl [(hx_, .inr (4, [.ref hp, .ref hst, .ref hd, .ref hfa])), (hp, .inr (2, [.int (iZ h), .int (iZ w), .int (iZ mn), .ref hs, .ref hw, .ref hk])), (hs, .inl (cL, 16384, .inr (.inl (aL u_18_2.1)))), (hw, .inl (cL, 16384, .inr (.inl (aL u_18_1.1)))), (hk, .inl (cL, 64, .inr (.inl (aL u_18_2.2))))] H := hP
        have hD : va_D A [(hx_, .inr (4, [.ref hp, .ref hst, .ref hd, .ref hfa])), (hp, .inr (2, [.int (iZ h), .int (iZ w), .int (iZ mn), .ref hs, .ref hw, .ref hk])), (hs, .inl (cL, 16384, .inr (.inl (aL u_18_2.1)))), (hw, .inl (cL, 16384, .inr (.inl (aL u_18_1.1)))), (hk, .inl (cL, 64, .inr (.inl (aL u_18_2.2))))] := hD
        refine lv_iinc (v := iZ (((0 + 1) + 1) + 1)) (lv' := [(2, .int (iZ (((0 + 1) + 1) + 1))), (0, .ref hx_), (1, .int (iZ qr))]) hx hb d_D_turn_21 hl (k := 0) rfl (iZ_add _ _) (by decide) rfl (fun ls hl => ?_)
        refine lv_goto (tgt := 9) hx hb d_D_turn_24 (by decide) ?_
        refine lv_iload_n hx hb d_D_turn_9 rfl (lv_at hl 0 rfl) ?_
        refine lv_iload_n hx hb d_D_turn_10 rfl (lv_at hl 2 rfl) ?_
        refine zi_ge (tgt := 27) hx hb d_D_turn_11 (by decide) (by omega) (by omega) (by omega) (by omega) (fun c_11 => ?_) (fun c_11 => ?_)
        · refine vx_ret ?_
          exact W.vret hx hb hr (fun t ht hW => ⟨⟨((h, w, hs, hw, u_18_2.1, u_18_1.1, u_18_2.2)), rfl, ⟨by omega, by rw [show qr.toNat = 3 by omega]; rfl, by rw [show qr.toNat = 3 by omega]; rfl, by rw [show qr.toNat = 3 by omega]; exact q_18_2⟩, by rw [ht]; exact hP, va_K.moved hW.alike hK, hD⟩, hS.F ht⟩) hS.2.2 d_D_turn_27
        · exact absurd c_11 (by omega)
