/-! pasted out of the laws of bits (families wb_, pf_) -/
theorem wb_tb (n : Nat) : (lN n).toBitVec = BitVec.ofNat 64 n := rfl
theorem wb_inj {a b : Int64} (h : a.toBitVec = b.toBitVec) : a = b := Int64.toBitVec_inj.mp h
theorem wb_c : ∀ k, k < 64 → ((nI k).toInt64 &&& 63) = lN k := by decide +kernel
theorem wb_cu : ∀ k, k < 64 → ((nI k).toInt64.toUInt64 &&& Int64.toUInt64 63) = UInt64.ofNat k := by decide +kernel
theorem wb_sm : ∀ k, k < 64 → (BitVec.ofNat 64 k).smod 64 = BitVec.ofNat 64 k := by decide +kernel
theorem pf_lI {a : Nat} (h : a < 2 ^ 63) : (lN a).toInt = (a : Int) := lg_ofNat_toInt h
theorem pf_shr {a d : Nat} {D : Int64} (hD : (D.toBitVec.smod 64).toNat = d) (h : a < 2 ^ 62) : lN a >>> D = lN (a / 2 ^ d) := by
  have hd : a / 2 ^ d ≤ a := Nat.div_le_self _ _
  apply Int64.toInt_inj.mp
  have e : (lN a >>> D).toInt = (lN a).toInt >>> d := by
    rw [← hD]
    exact BitVec.toInt_sshiftRight ..
  rw [e, Int.shiftRight_eq_div_pow, pf_lI (by omega), pf_lI (by omega)]
  rfl
theorem pf_ushr {a d : Nat} {D : UInt64} (hD : D.toNat % 64 = d) (h : a < 2 ^ 62) : ((lN a).toUInt64 >>> D).toInt64 = lN (a / 2 ^ d) := by
  have hd : a / 2 ^ d ≤ a := Nat.div_le_self _ _
  have e : (lN a).toUInt64 >>> D = UInt64.ofNat (a / 2 ^ d) := UInt64.toNat_inj.mp (by
    rw [UInt64.toNat_shiftRight, hD, Nat.shiftRight_eq_div_pow, UInt64.toNat_ofNat']
    show (UInt64.ofNat a).toNat / 2 ^ d = _
    rw [UInt64.toNat_ofNat', Nat.mod_eq_of_lt (by omega), Nat.mod_eq_of_lt (by omega)])
  rw [e]
  rfl
/-! numbers: an int is iZ of a whole number, a long lZ of one; arithmetic needs no bounds, comparisons do -/
def iZ (z : Int) : Int32 := Int32.ofInt z
def lZ (z : Int) : Int64 := Int64.ofInt z
def bI (b : Bool) : Int32 := if b then 1 else 0
theorem iZ_of (x : Int32) : x = iZ x.toInt := (Int32.ofInt_toInt x).symm
theorem lZ_of (x : Int64) : x = lZ x.toInt := (Int64.ofInt_toInt x).symm
theorem iZ_lo (x : Int32) : -2147483648 ≤ x.toInt := x.le_toInt
theorem iZ_hi (x : Int32) : x.toInt ≤ 2147483647 := Int.le_of_lt_add_one x.toInt_lt
theorem iZ_add (a b : Int) : iZ a + iZ b = iZ (a + b) := (Int32.ofInt_add a b).symm
theorem iZ_sub (a b : Int) : iZ a - iZ b = iZ (a - b) := (Int32.ofInt_sub a b).symm
theorem iZ_mul (a b : Int) : iZ a * iZ b = iZ (a * b) := (Int32.ofInt_mul a b).symm
theorem iZ_neg (a : Int) : -iZ a = iZ (-a) := (Int32.ofInt_neg a).symm
theorem lZ_add (a b : Int) : lZ a + lZ b = lZ (a + b) := (Int64.ofInt_add a b).symm
theorem lZ_sub (a b : Int) : lZ a - lZ b = lZ (a - b) := (Int64.ofInt_sub a b).symm
theorem lZ_mul (a b : Int) : lZ a * lZ b = lZ (a * b) := (Int64.ofInt_mul a b).symm
theorem lZ_neg (a : Int) : -lZ a = lZ (-a) := (Int64.ofInt_neg a).symm
theorem iZ_int {a : Int} (h1 : -2147483648 ≤ a) (h2 : a ≤ 2147483647) : (iZ a).toInt = a := Int32.toInt_ofInt_of_le (by omega) (by omega)
theorem lZ_int {a : Int} (h1 : -9223372036854775808 ≤ a) (h2 : a ≤ 9223372036854775807) : (lZ a).toInt = a := Int64.toInt_ofInt_of_le (by omega) (by omega)
theorem iZ_lt {a b : Int} (a1 : -2147483648 ≤ a) (a2 : a ≤ 2147483647) (b1 : -2147483648 ≤ b) (b2 : b ≤ 2147483647) : iZ a < iZ b ↔ a < b := by rw [Int32.lt_iff_toInt_lt, iZ_int a1 a2, iZ_int b1 b2]
theorem iZ_le {a b : Int} (a1 : -2147483648 ≤ a) (a2 : a ≤ 2147483647) (b1 : -2147483648 ≤ b) (b2 : b ≤ 2147483647) : iZ a ≤ iZ b ↔ a ≤ b := by rw [Int32.le_iff_toInt_le, iZ_int a1 a2, iZ_int b1 b2]
theorem iZ_eq {a b : Int} (a1 : -2147483648 ≤ a) (a2 : a ≤ 2147483647) (b1 : -2147483648 ≤ b) (b2 : b ≤ 2147483647) : iZ a = iZ b ↔ a = b := by rw [← Int32.toInt_inj, iZ_int a1 a2, iZ_int b1 b2]
theorem lZ_lt {a b : Int} (a1 : -9223372036854775808 ≤ a) (a2 : a ≤ 9223372036854775807) (b1 : -9223372036854775808 ≤ b) (b2 : b ≤ 9223372036854775807) : lZ a < lZ b ↔ a < b := by rw [Int64.lt_iff_toInt_lt, lZ_int a1 a2, lZ_int b1 b2]
theorem lZ_eq {a b : Int} (a1 : -9223372036854775808 ≤ a) (a2 : a ≤ 9223372036854775807) (b1 : -9223372036854775808 ≤ b) (b2 : b ≤ 9223372036854775807) : lZ a = lZ b ↔ a = b := by rw [← Int64.toInt_inj, lZ_int a1 a2, lZ_int b1 b2]
theorem iZ_0 : iZ 0 = 0 := rfl
theorem iZ_in {a : Int} {n : Nat} (h1 : 0 ≤ a) (h2 : a < n) (hn : n < 2147483648) : vp_in (iZ a) n := by rw [vp_in_iff, iZ_int (by omega) (by omega)]; exact ⟨h1, h2⟩
theorem iZ_nat {a : Int} (h1 : 0 ≤ a) (h2 : a ≤ 2147483647) : (iZ a).toNatClampNeg = a.toNat := Int32.toNatClampNeg_ofInt_of_le (by omega) (by omega)
theorem iZ_div {a b : Int} (a1 : 0 ≤ a) (a2 : a ≤ 2147483647) (b1 : 0 < b) (b2 : b ≤ 2147483647) : iZ a / iZ b = iZ (a / b) := by
  have h := Int32.ofInt_tdiv (a := a) (b := b) (by rw [Int32.toInt_minValue]; omega) (by rw [Int32.toInt_maxValue]; omega) (by rw [Int32.toInt_minValue]; omega) (by rw [Int32.toInt_maxValue]; omega)
  rw [Int.tdiv_eq_ediv_of_nonneg a1] at h
  exact h.symm
theorem iZ_rem {a b : Int} (a1 : 0 ≤ a) (a2 : a ≤ 2147483647) (b1 : 0 < b) (b2 : b ≤ 2147483647) : iZ a - iZ a / iZ b * iZ b = iZ (a % b) := by
  rw [iZ_div a1 a2 b1 b2, iZ_mul, iZ_sub, Int.emod_def, Int.mul_comm b]
theorem lZ_div {a b : Int} (a1 : 0 ≤ a) (a2 : a ≤ 9223372036854775807) (b1 : 0 < b) (b2 : b ≤ 9223372036854775807) : lZ a / lZ b = lZ (a / b) := by
  have h := Int64.ofInt_tdiv (a := a) (b := b) (by rw [Int64.toInt_minValue]; omega) (by rw [Int64.toInt_maxValue]; omega) (by rw [Int64.toInt_minValue]; omega) (by rw [Int64.toInt_maxValue]; omega)
  rw [Int.tdiv_eq_ediv_of_nonneg a1] at h
  exact h.symm
theorem iZ_l {a : Int} (h1 : -2147483648 ≤ a) (h2 : a ≤ 2147483647) : (iZ a).toInt64 = lZ a := Int32.toInt64_ofInt (by rw [Int32.toInt_minValue]; omega) (by rw [Int32.toInt_maxValue]; omega)
theorem lZ_i (a : Int) : (lZ a).toInt32 = iZ a := Int64.toInt32_ofInt
theorem bI_0 (b : Bool) : bI b = 0 ↔ b = false := by cases b <;> decide
theorem bI_dec {P : Prop} (d : Decidable P) {v : Int32} (h1 : P → v = 1) (h2 : ¬ P → v = 0) : v = bI (@decide P d) := by
  by_cases h : P
  · rw [h1 h]; simp [bI, h]
  · rw [h2 h]; simp [bI, h]
theorem bI_nar (b : Bool) : narrow .boolean (.int (bI b)) = .int (bI b) := by cases b <;> decide
/-! arrays by whole numbers -/
def aI (G : Int → Int32) : Nat → Int32 := fun n => G n
def aL (G : Int → Int64) : Nat → Int64 := fun n => G n
def upZ {α : Type} (G : Int → α) (i : Int) (x : α) : Int → α := fun j => if j = i then x else G j
theorem upZ_s {α : Type} (G : Int → α) (i : Int) (x : α) : upZ G i x i = x := if_pos rfl
theorem upZ_n {α : Type} (G : Int → α) {i j : Int} (x : α) (h : j ≠ i) : upZ G i x j = G j := if_neg h
theorem aI_at (G : Int → Int32) {i : Int} (h1 : 0 ≤ i) (h2 : i ≤ 2147483647) : aI G (iZ i).toNatClampNeg = G i := by rw [iZ_nat h1 h2]; show G (i.toNat : Int) = G i; rw [Int.toNat_of_nonneg h1]
theorem aL_at (G : Int → Int64) {i : Int} (h1 : 0 ≤ i) (h2 : i ≤ 2147483647) : aL G (iZ i).toNatClampNeg = G i := by rw [iZ_nat h1 h2]; show G (i.toNat : Int) = G i; rw [Int.toNat_of_nonneg h1]
theorem aI_up (G : Int → Int32) {i : Int} (x : Int32) (h1 : 0 ≤ i) (h2 : i ≤ 2147483647) : upd (aI G) (iZ i).toNatClampNeg x = aI (upZ G i x) := by
  rw [iZ_nat h1 h2]; funext n
  by_cases h : n = i.toNat
  · subst h; rw [pk_us]; show x = upZ G i x (i.toNat : Int); rw [Int.toNat_of_nonneg h1, upZ_s]
  · rw [pk_un h]; show G n = upZ G i x n; rw [upZ_n _ _ (by omega)]
theorem aL_up (G : Int → Int64) {i : Int} (x : Int64) (h1 : 0 ≤ i) (h2 : i ≤ 2147483647) : vp_updL (aL G) (iZ i).toNatClampNeg x = aL (upZ G i x) := by
  rw [iZ_nat h1 h2]; funext n
  by_cases h : n = i.toNat
  · subst h; rw [pk_uLs]; show x = upZ G i x (i.toNat : Int); rw [Int.toNat_of_nonneg h1, upZ_s]
  · rw [pk_uLn h]; show G n = upZ G i x n; rw [upZ_n _ _ (by omega)]

section ZR
variable {p : Program} {l : Launch} {e : Env} {R : Room} {s : State} {m : MethodId} {args : Array Value} {below : List Frame} {meth : Method} {c : Code} {H : Heap} {locs : List Loc} {cells slots : Nat} {Q : State → Prop}
variable {cc : ByteArray} {pc : Nat} {ls : Array Slot} {rest : List Value} {D : va_G} {cl : List vw_C} {A : Nat → Prop} {a : Nat} {tys : List (ClassId × FieldType)} {ws : va_W} {H0 : Heap}
theorem zi_add (hx : p.tables.exec = Jvm.exec) (hb : c.code = cc) {x y : Int} (d : decode cc pc = .ok (.iadd, 1)) (k : W p l e R s m args below meth c H locs cells slots Q (F0 m (pc + 1) ls (.int (iZ (x + y)) :: rest))) : W p l e R s m args below meth c H locs cells slots Q (F0 m pc ls (.int (iZ y) :: .int (iZ x) :: rest)) := lv_iadd hx hb d (by rw [iZ_add]; exact k)
theorem zi_sub (hx : p.tables.exec = Jvm.exec) (hb : c.code = cc) {x y : Int} (d : decode cc pc = .ok (.isub, 1)) (k : W p l e R s m args below meth c H locs cells slots Q (F0 m (pc + 1) ls (.int (iZ (x - y)) :: rest))) : W p l e R s m args below meth c H locs cells slots Q (F0 m pc ls (.int (iZ y) :: .int (iZ x) :: rest)) := lv_isub hx hb d (by rw [iZ_sub]; exact k)
theorem zi_mul (hx : p.tables.exec = Jvm.exec) (hb : c.code = cc) {x y : Int} (d : decode cc pc = .ok (.imul, 1)) (k : W p l e R s m args below meth c H locs cells slots Q (F0 m (pc + 1) ls (.int (iZ (x * y)) :: rest))) : W p l e R s m args below meth c H locs cells slots Q (F0 m pc ls (.int (iZ y) :: .int (iZ x) :: rest)) := lv_imul hx hb d (by rw [iZ_mul]; exact k)
theorem zl_add (hx : p.tables.exec = Jvm.exec) (hb : c.code = cc) {x y : Int} (d : decode cc pc = .ok (.ladd, 1)) (k : W p l e R s m args below meth c H locs cells slots Q (F0 m (pc + 1) ls (.long (lZ (x + y)) :: rest))) : W p l e R s m args below meth c H locs cells slots Q (F0 m pc ls (.long (lZ y) :: .long (lZ x) :: rest)) := lv_ladd hx hb d (by rw [lZ_add]; exact k)
theorem zl_sub (hx : p.tables.exec = Jvm.exec) (hb : c.code = cc) {x y : Int} (d : decode cc pc = .ok (.lsub, 1)) (k : W p l e R s m args below meth c H locs cells slots Q (F0 m (pc + 1) ls (.long (lZ (x - y)) :: rest))) : W p l e R s m args below meth c H locs cells slots Q (F0 m pc ls (.long (lZ y) :: .long (lZ x) :: rest)) := lv_lsub hx hb d (by rw [lZ_sub]; exact k)
theorem zl_mul (hx : p.tables.exec = Jvm.exec) (hb : c.code = cc) {x y : Int} (d : decode cc pc = .ok (.lmul, 1)) (k : W p l e R s m args below meth c H locs cells slots Q (F0 m (pc + 1) ls (.long (lZ (x * y)) :: rest))) : W p l e R s m args below meth c H locs cells slots Q (F0 m pc ls (.long (lZ y) :: .long (lZ x) :: rest)) := lv_lmul hx hb d (by rw [lZ_mul]; exact k)
theorem zi_neg (hx : p.tables.exec = Jvm.exec) (hb : c.code = cc) {x : Int} (d : decode cc pc = .ok (.ineg, 1)) (k : W p l e R s m args below meth c H locs cells slots Q (F0 m (pc + 1) ls (.int (iZ (-x)) :: rest))) : W p l e R s m args below meth c H locs cells slots Q (F0 m pc ls (.int (iZ x) :: rest)) := lv_ineg hx hb d (by rw [iZ_neg]; exact k)
theorem zl_neg (hx : p.tables.exec = Jvm.exec) (hb : c.code = cc) {x : Int} (d : decode cc pc = .ok (.lneg, 1)) (k : W p l e R s m args below meth c H locs cells slots Q (F0 m (pc + 1) ls (.long (lZ (-x)) :: rest))) : W p l e R s m args below meth c H locs cells slots Q (F0 m pc ls (.long (lZ x) :: rest)) := lv_lneg hx hb d (by rw [lZ_neg]; exact k)
theorem zi_div (hx : p.tables.exec = Jvm.exec) (hb : c.code = cc) {x y : Int} (d : decode cc pc = .ok (.idiv, 1)) (a1 : 0 ≤ x) (a2 : x ≤ 2147483647) (b1 : 0 < y) (b2 : y ≤ 2147483647) (k : W p l e R s m args below meth c H locs cells slots Q (F0 m (pc + 1) ls (.int (iZ (x / y)) :: rest))) : W p l e R s m args below meth c H locs cells slots Q (F0 m pc ls (.int (iZ y) :: .int (iZ x) :: rest)) := lv_idiv hx hb d (fun h => by rw [← iZ_0, iZ_eq (by omega) (by omega) (by omega) (by omega)] at h; omega) (by rw [iZ_div a1 a2 b1 b2]; exact k)
theorem zi_rem (hx : p.tables.exec = Jvm.exec) (hb : c.code = cc) {x y : Int} (d : decode cc pc = .ok (.irem, 1)) (a1 : 0 ≤ x) (a2 : x ≤ 2147483647) (b1 : 0 < y) (b2 : y ≤ 2147483647) (k : W p l e R s m args below meth c H locs cells slots Q (F0 m (pc + 1) ls (.int (iZ (x % y)) :: rest))) : W p l e R s m args below meth c H locs cells slots Q (F0 m pc ls (.int (iZ y) :: .int (iZ x) :: rest)) := lv_irem hx hb d (fun h => by rw [← iZ_0, iZ_eq (by omega) (by omega) (by omega) (by omega)] at h; omega) (by rw [iZ_rem a1 a2 b1 b2]; exact k)
theorem zl_div (hx : p.tables.exec = Jvm.exec) (hb : c.code = cc) {x y : Int} (d : decode cc pc = .ok (.ldiv, 1)) (a1 : 0 ≤ x) (a2 : x ≤ 9223372036854775807) (b1 : 0 < y) (b2 : y ≤ 9223372036854775807) (k : W p l e R s m args below meth c H locs cells slots Q (F0 m (pc + 1) ls (.long (lZ (x / y)) :: rest))) : W p l e R s m args below meth c H locs cells slots Q (F0 m pc ls (.long (lZ y) :: .long (lZ x) :: rest)) := lv_ldiv hx hb d (fun h => by rw [show (0 : Int64) = lZ 0 from rfl, lZ_eq (by omega) (by omega) (by omega) (by omega)] at h; omega) (by rw [lZ_div a1 a2 b1 b2]; exact k)
theorem zi_l (hx : p.tables.exec = Jvm.exec) (hb : c.code = cc) {x : Int} (d : decode cc pc = .ok (.i2l, 1)) (a1 : -2147483648 ≤ x) (a2 : x ≤ 2147483647) (k : W p l e R s m args below meth c H locs cells slots Q (F0 m (pc + 1) ls (.long (lZ x) :: rest))) : W p l e R s m args below meth c H locs cells slots Q (F0 m pc ls (.int (iZ x) :: rest)) := lv_i2l hx hb d (iZ_l a1 a2) k
theorem zl_i (hx : p.tables.exec = Jvm.exec) (hb : c.code = cc) {x : Int} (d : decode cc pc = .ok (.l2i, 1)) (k : W p l e R s m args below meth c H locs cells slots Q (F0 m (pc + 1) ls (.int (iZ x) :: rest))) : W p l e R s m args below meth c H locs cells slots Q (F0 m pc ls (.long (lZ x) :: rest)) := lv_l2i hx hb d (lZ_i x) k
theorem zi_eq (hx : p.tables.exec = Jvm.exec) (hb : c.code = cc) {x y : Int} {off : Int} {tgt : Nat} (d : decode cc pc = .ok (.if_icmp .eq off, 3)) (ht : (pc : Int) + off = (tgt : Int)) (a1 : -2147483648 ≤ x) (a2 : x ≤ 2147483647) (b1 : -2147483648 ≤ y) (b2 : y ≤ 2147483647) (kt : x = y → W p l e R s m args below meth c H locs cells slots Q (F0 m tgt ls (rest))) (kf : ¬ x = y → W p l e R s m args below meth c H locs cells slots Q (F0 m (pc + 3) ls (rest))) : W p l e R s m args below meth c H locs cells slots Q (F0 m pc ls (.int (iZ y) :: .int (iZ x) :: rest)) := lv_icmp_eq hx hb d ht (fun h => kt ((iZ_eq a1 a2 b1 b2).mp h)) (fun h => kf (fun q => h ((iZ_eq a1 a2 b1 b2).mpr q)))
theorem zi_ne (hx : p.tables.exec = Jvm.exec) (hb : c.code = cc) {x y : Int} {off : Int} {tgt : Nat} (d : decode cc pc = .ok (.if_icmp .ne off, 3)) (ht : (pc : Int) + off = (tgt : Int)) (a1 : -2147483648 ≤ x) (a2 : x ≤ 2147483647) (b1 : -2147483648 ≤ y) (b2 : y ≤ 2147483647) (kt : x ≠ y → W p l e R s m args below meth c H locs cells slots Q (F0 m tgt ls (rest))) (kf : x = y → W p l e R s m args below meth c H locs cells slots Q (F0 m (pc + 3) ls (rest))) : W p l e R s m args below meth c H locs cells slots Q (F0 m pc ls (.int (iZ y) :: .int (iZ x) :: rest)) := lv_icmp_ne hx hb d ht (fun h => kt (fun q => h ((iZ_eq a1 a2 b1 b2).mpr q))) (fun h => kf ((iZ_eq a1 a2 b1 b2).mp h))
theorem zi_lt (hx : p.tables.exec = Jvm.exec) (hb : c.code = cc) {x y : Int} {off : Int} {tgt : Nat} (d : decode cc pc = .ok (.if_icmp .lt off, 3)) (ht : (pc : Int) + off = (tgt : Int)) (a1 : -2147483648 ≤ x) (a2 : x ≤ 2147483647) (b1 : -2147483648 ≤ y) (b2 : y ≤ 2147483647) (kt : x < y → W p l e R s m args below meth c H locs cells slots Q (F0 m tgt ls (rest))) (kf : ¬ x < y → W p l e R s m args below meth c H locs cells slots Q (F0 m (pc + 3) ls (rest))) : W p l e R s m args below meth c H locs cells slots Q (F0 m pc ls (.int (iZ y) :: .int (iZ x) :: rest)) := lv_icmp_lt hx hb d ht (fun h => kt ((iZ_lt a1 a2 b1 b2).mp h)) (fun h => kf (fun q => h ((iZ_lt a1 a2 b1 b2).mpr q)))
theorem zi_ge (hx : p.tables.exec = Jvm.exec) (hb : c.code = cc) {x y : Int} {off : Int} {tgt : Nat} (d : decode cc pc = .ok (.if_icmp .ge off, 3)) (ht : (pc : Int) + off = (tgt : Int)) (a1 : -2147483648 ≤ x) (a2 : x ≤ 2147483647) (b1 : -2147483648 ≤ y) (b2 : y ≤ 2147483647) (kt : x ≥ y → W p l e R s m args below meth c H locs cells slots Q (F0 m tgt ls (rest))) (kf : ¬ x ≥ y → W p l e R s m args below meth c H locs cells slots Q (F0 m (pc + 3) ls (rest))) : W p l e R s m args below meth c H locs cells slots Q (F0 m pc ls (.int (iZ y) :: .int (iZ x) :: rest)) := lv_icmp_ge hx hb d ht (fun h => kt ((iZ_le b1 b2 a1 a2).mp h)) (fun h => kf (fun q => h ((iZ_le b1 b2 a1 a2).mpr q)))
theorem zi_gt (hx : p.tables.exec = Jvm.exec) (hb : c.code = cc) {x y : Int} {off : Int} {tgt : Nat} (d : decode cc pc = .ok (.if_icmp .gt off, 3)) (ht : (pc : Int) + off = (tgt : Int)) (a1 : -2147483648 ≤ x) (a2 : x ≤ 2147483647) (b1 : -2147483648 ≤ y) (b2 : y ≤ 2147483647) (kt : x > y → W p l e R s m args below meth c H locs cells slots Q (F0 m tgt ls (rest))) (kf : ¬ x > y → W p l e R s m args below meth c H locs cells slots Q (F0 m (pc + 3) ls (rest))) : W p l e R s m args below meth c H locs cells slots Q (F0 m pc ls (.int (iZ y) :: .int (iZ x) :: rest)) := lv_icmp_gt hx hb d ht (fun h => kt ((iZ_lt b1 b2 a1 a2).mp h)) (fun h => kf (fun q => h ((iZ_lt b1 b2 a1 a2).mpr q)))
theorem zi_le (hx : p.tables.exec = Jvm.exec) (hb : c.code = cc) {x y : Int} {off : Int} {tgt : Nat} (d : decode cc pc = .ok (.if_icmp .le off, 3)) (ht : (pc : Int) + off = (tgt : Int)) (a1 : -2147483648 ≤ x) (a2 : x ≤ 2147483647) (b1 : -2147483648 ≤ y) (b2 : y ≤ 2147483647) (kt : x ≤ y → W p l e R s m args below meth c H locs cells slots Q (F0 m tgt ls (rest))) (kf : ¬ x ≤ y → W p l e R s m args below meth c H locs cells slots Q (F0 m (pc + 3) ls (rest))) : W p l e R s m args below meth c H locs cells slots Q (F0 m pc ls (.int (iZ y) :: .int (iZ x) :: rest)) := lv_icmp_le hx hb d ht (fun h => kt ((iZ_le a1 a2 b1 b2).mp h)) (fun h => kf (fun q => h ((iZ_le a1 a2 b1 b2).mpr q)))
theorem zi_if_eq (hx : p.tables.exec = Jvm.exec) (hb : c.code = cc) {x : Int} {off : Int} {tgt : Nat} (d : decode cc pc = .ok (.ifCond .eq off, 3)) (ht : (pc : Int) + off = (tgt : Int)) (a1 : -2147483648 ≤ x) (a2 : x ≤ 2147483647) (kt : x = 0 → W p l e R s m args below meth c H locs cells slots Q (F0 m tgt ls (rest))) (kf : ¬ x = 0 → W p l e R s m args below meth c H locs cells slots Q (F0 m (pc + 3) ls (rest))) : W p l e R s m args below meth c H locs cells slots Q (F0 m pc ls (.int (iZ x) :: rest)) := lv_if_eq hx hb d ht (fun h => kt ((show iZ x = iZ 0 ↔ x = 0 from iZ_eq a1 a2 (by omega) (by omega)).mp h)) (fun h => kf (fun q => h ((show iZ x = iZ 0 ↔ x = 0 from iZ_eq a1 a2 (by omega) (by omega)).mpr q)))
theorem zi_if_ne (hx : p.tables.exec = Jvm.exec) (hb : c.code = cc) {x : Int} {off : Int} {tgt : Nat} (d : decode cc pc = .ok (.ifCond .ne off, 3)) (ht : (pc : Int) + off = (tgt : Int)) (a1 : -2147483648 ≤ x) (a2 : x ≤ 2147483647) (kt : x ≠ 0 → W p l e R s m args below meth c H locs cells slots Q (F0 m tgt ls (rest))) (kf : x = 0 → W p l e R s m args below meth c H locs cells slots Q (F0 m (pc + 3) ls (rest))) : W p l e R s m args below meth c H locs cells slots Q (F0 m pc ls (.int (iZ x) :: rest)) := lv_if_ne hx hb d ht (fun h => kt (fun q => h ((show iZ x = iZ 0 ↔ x = 0 from iZ_eq a1 a2 (by omega) (by omega)).mpr q))) (fun h => kf ((show iZ x = iZ 0 ↔ x = 0 from iZ_eq a1 a2 (by omega) (by omega)).mp h))
theorem zi_if_lt (hx : p.tables.exec = Jvm.exec) (hb : c.code = cc) {x : Int} {off : Int} {tgt : Nat} (d : decode cc pc = .ok (.ifCond .lt off, 3)) (ht : (pc : Int) + off = (tgt : Int)) (a1 : -2147483648 ≤ x) (a2 : x ≤ 2147483647) (kt : x < 0 → W p l e R s m args below meth c H locs cells slots Q (F0 m tgt ls (rest))) (kf : ¬ x < 0 → W p l e R s m args below meth c H locs cells slots Q (F0 m (pc + 3) ls (rest))) : W p l e R s m args below meth c H locs cells slots Q (F0 m pc ls (.int (iZ x) :: rest)) := lv_if_lt hx hb d ht (fun h => kt ((show iZ x < iZ 0 ↔ x < 0 from iZ_lt a1 a2 (by omega) (by omega)).mp h)) (fun h => kf (fun q => h ((show iZ x < iZ 0 ↔ x < 0 from iZ_lt a1 a2 (by omega) (by omega)).mpr q)))
theorem zi_if_ge (hx : p.tables.exec = Jvm.exec) (hb : c.code = cc) {x : Int} {off : Int} {tgt : Nat} (d : decode cc pc = .ok (.ifCond .ge off, 3)) (ht : (pc : Int) + off = (tgt : Int)) (a1 : -2147483648 ≤ x) (a2 : x ≤ 2147483647) (kt : x ≥ 0 → W p l e R s m args below meth c H locs cells slots Q (F0 m tgt ls (rest))) (kf : ¬ x ≥ 0 → W p l e R s m args below meth c H locs cells slots Q (F0 m (pc + 3) ls (rest))) : W p l e R s m args below meth c H locs cells slots Q (F0 m pc ls (.int (iZ x) :: rest)) := lv_if_ge hx hb d ht (fun h => kt ((show iZ 0 ≤ iZ x ↔ 0 ≤ x from iZ_le (by omega) (by omega) a1 a2).mp h)) (fun h => kf (fun q => h ((show iZ 0 ≤ iZ x ↔ 0 ≤ x from iZ_le (by omega) (by omega) a1 a2).mpr q)))
theorem zi_if_gt (hx : p.tables.exec = Jvm.exec) (hb : c.code = cc) {x : Int} {off : Int} {tgt : Nat} (d : decode cc pc = .ok (.ifCond .gt off, 3)) (ht : (pc : Int) + off = (tgt : Int)) (a1 : -2147483648 ≤ x) (a2 : x ≤ 2147483647) (kt : x > 0 → W p l e R s m args below meth c H locs cells slots Q (F0 m tgt ls (rest))) (kf : ¬ x > 0 → W p l e R s m args below meth c H locs cells slots Q (F0 m (pc + 3) ls (rest))) : W p l e R s m args below meth c H locs cells slots Q (F0 m pc ls (.int (iZ x) :: rest)) := lv_if_gt hx hb d ht (fun h => kt ((show iZ 0 < iZ x ↔ 0 < x from iZ_lt (by omega) (by omega) a1 a2).mp h)) (fun h => kf (fun q => h ((show iZ 0 < iZ x ↔ 0 < x from iZ_lt (by omega) (by omega) a1 a2).mpr q)))
theorem zi_if_le (hx : p.tables.exec = Jvm.exec) (hb : c.code = cc) {x : Int} {off : Int} {tgt : Nat} (d : decode cc pc = .ok (.ifCond .le off, 3)) (ht : (pc : Int) + off = (tgt : Int)) (a1 : -2147483648 ≤ x) (a2 : x ≤ 2147483647) (kt : x ≤ 0 → W p l e R s m args below meth c H locs cells slots Q (F0 m tgt ls (rest))) (kf : ¬ x ≤ 0 → W p l e R s m args below meth c H locs cells slots Q (F0 m (pc + 3) ls (rest))) : W p l e R s m args below meth c H locs cells slots Q (F0 m pc ls (.int (iZ x) :: rest)) := lv_if_le hx hb d ht (fun h => kt ((show iZ x ≤ iZ 0 ↔ x ≤ 0 from iZ_le a1 a2 (by omega) (by omega)).mp h)) (fun h => kf (fun q => h ((show iZ x ≤ iZ 0 ↔ x ≤ 0 from iZ_le a1 a2 (by omega) (by omega)).mpr q)))
theorem zb_if_eq (hx : p.tables.exec = Jvm.exec) (hb : c.code = cc) {b : Bool} {off : Int} {tgt : Nat} (d : decode cc pc = .ok (.ifCond .eq off, 3)) (ht : (pc : Int) + off = (tgt : Int)) (kt : b = false → W p l e R s m args below meth c H locs cells slots Q (F0 m tgt ls (rest))) (kf : b = true → W p l e R s m args below meth c H locs cells slots Q (F0 m (pc + 3) ls (rest))) : W p l e R s m args below meth c H locs cells slots Q (F0 m pc ls (.int (bI b) :: rest)) := lv_if_eq hx hb d ht (fun h => kt ((bI_0 b).mp h)) (fun h => kf (by cases b; exact absurd ((bI_0 false).mpr rfl) h; rfl))
theorem zb_if_ne (hx : p.tables.exec = Jvm.exec) (hb : c.code = cc) {b : Bool} {off : Int} {tgt : Nat} (d : decode cc pc = .ok (.ifCond .ne off, 3)) (ht : (pc : Int) + off = (tgt : Int)) (kt : b = true → W p l e R s m args below meth c H locs cells slots Q (F0 m tgt ls (rest))) (kf : b = false → W p l e R s m args below meth c H locs cells slots Q (F0 m (pc + 3) ls (rest))) : W p l e R s m args below meth c H locs cells slots Q (F0 m pc ls (.int (bI b) :: rest)) := lv_if_ne hx hb d ht (fun h => kt (by cases b; exact absurd ((bI_0 false).mpr rfl) h; rfl)) (fun h => kf ((bI_0 b).mp h))
theorem lg_cmp_cases (x y : Int64) : (x < y ∧ lg_cmp x y = -1) ∨ (x = y ∧ lg_cmp x y = 0) ∨ (y < x ∧ lg_cmp x y = 1) := by
  by_cases h1 : y < x
  · exact Or.inr (Or.inr ⟨h1, by simp [lg_cmp, h1]⟩)
  · by_cases h2 : x = y
    · subst h2; exact Or.inr (Or.inl ⟨rfl, by simp [lg_cmp, h1]⟩)
    · refine Or.inl ⟨?_, by simp [lg_cmp, h1, h2]⟩
      rw [Int64.lt_iff_toInt_lt] at h1 ⊢; rw [← Int64.toInt_inj] at h2; omega
theorem zl_eq (hx : p.tables.exec = Jvm.exec) (hb : c.code = cc) {x y : Int} {off : Int} {tgt : Nat} (d : decode cc pc = .ok (.lcmp, 1)) (d2 : decode cc (pc + 1) = .ok (.ifCond .eq off, 3)) (ht : ((pc + 1 : Nat) : Int) + off = (tgt : Int)) (a1 : -9223372036854775808 ≤ x) (a2 : x ≤ 9223372036854775807) (b1 : -9223372036854775808 ≤ y) (b2 : y ≤ 9223372036854775807) (kt : x = y → W p l e R s m args below meth c H locs cells slots Q (F0 m tgt ls (rest))) (kf : ¬ x = y → W p l e R s m args below meth c H locs cells slots Q (F0 m (pc + 4) ls (rest))) : W p l e R s m args below meth c H locs cells slots Q (F0 m pc ls (.long (lZ y) :: .long (lZ x) :: rest)) := by
  refine W.lcmp hx hb d ?_
  have hx9 := lZ_lt a1 a2 b1 b2; have hy9 := lZ_lt b1 b2 a1 a2; have he9 := lZ_eq a1 a2 b1 b2
  refine lv_if_eq hx hb d2 ht (fun h => kt ?_) (fun h => kf ?_) <;>
  · rcases lg_cmp_cases (lZ x) (lZ y) with ⟨q, r⟩ | ⟨q, r⟩ | ⟨q, r⟩ <;> rw [r] at h <;> first | (have q := hx9.mp q; omega) | (have q := he9.mp q; omega) | (have q := hy9.mp q; omega) | exact absurd h (by decide)
theorem zl_ne (hx : p.tables.exec = Jvm.exec) (hb : c.code = cc) {x y : Int} {off : Int} {tgt : Nat} (d : decode cc pc = .ok (.lcmp, 1)) (d2 : decode cc (pc + 1) = .ok (.ifCond .ne off, 3)) (ht : ((pc + 1 : Nat) : Int) + off = (tgt : Int)) (a1 : -9223372036854775808 ≤ x) (a2 : x ≤ 9223372036854775807) (b1 : -9223372036854775808 ≤ y) (b2 : y ≤ 9223372036854775807) (kt : x ≠ y → W p l e R s m args below meth c H locs cells slots Q (F0 m tgt ls (rest))) (kf : x = y → W p l e R s m args below meth c H locs cells slots Q (F0 m (pc + 4) ls (rest))) : W p l e R s m args below meth c H locs cells slots Q (F0 m pc ls (.long (lZ y) :: .long (lZ x) :: rest)) := by
  refine W.lcmp hx hb d ?_
  have hx9 := lZ_lt a1 a2 b1 b2; have hy9 := lZ_lt b1 b2 a1 a2; have he9 := lZ_eq a1 a2 b1 b2
  refine lv_if_ne hx hb d2 ht (fun h => kt ?_) (fun h => kf ?_) <;>
  · rcases lg_cmp_cases (lZ x) (lZ y) with ⟨q, r⟩ | ⟨q, r⟩ | ⟨q, r⟩ <;> rw [r] at h <;> first | (have q := hx9.mp q; omega) | (have q := he9.mp q; omega) | (have q := hy9.mp q; omega) | exact absurd h (by decide)
theorem zl_lt (hx : p.tables.exec = Jvm.exec) (hb : c.code = cc) {x y : Int} {off : Int} {tgt : Nat} (d : decode cc pc = .ok (.lcmp, 1)) (d2 : decode cc (pc + 1) = .ok (.ifCond .lt off, 3)) (ht : ((pc + 1 : Nat) : Int) + off = (tgt : Int)) (a1 : -9223372036854775808 ≤ x) (a2 : x ≤ 9223372036854775807) (b1 : -9223372036854775808 ≤ y) (b2 : y ≤ 9223372036854775807) (kt : x < y → W p l e R s m args below meth c H locs cells slots Q (F0 m tgt ls (rest))) (kf : ¬ x < y → W p l e R s m args below meth c H locs cells slots Q (F0 m (pc + 4) ls (rest))) : W p l e R s m args below meth c H locs cells slots Q (F0 m pc ls (.long (lZ y) :: .long (lZ x) :: rest)) := by
  refine W.lcmp hx hb d ?_
  have hx9 := lZ_lt a1 a2 b1 b2; have hy9 := lZ_lt b1 b2 a1 a2; have he9 := lZ_eq a1 a2 b1 b2
  refine lv_if_lt hx hb d2 ht (fun h => kt ?_) (fun h => kf ?_) <;>
  · rcases lg_cmp_cases (lZ x) (lZ y) with ⟨q, r⟩ | ⟨q, r⟩ | ⟨q, r⟩ <;> rw [r] at h <;> first | (have q := hx9.mp q; omega) | (have q := he9.mp q; omega) | (have q := hy9.mp q; omega) | exact absurd h (by decide)
theorem zl_ge (hx : p.tables.exec = Jvm.exec) (hb : c.code = cc) {x y : Int} {off : Int} {tgt : Nat} (d : decode cc pc = .ok (.lcmp, 1)) (d2 : decode cc (pc + 1) = .ok (.ifCond .ge off, 3)) (ht : ((pc + 1 : Nat) : Int) + off = (tgt : Int)) (a1 : -9223372036854775808 ≤ x) (a2 : x ≤ 9223372036854775807) (b1 : -9223372036854775808 ≤ y) (b2 : y ≤ 9223372036854775807) (kt : x ≥ y → W p l e R s m args below meth c H locs cells slots Q (F0 m tgt ls (rest))) (kf : ¬ x ≥ y → W p l e R s m args below meth c H locs cells slots Q (F0 m (pc + 4) ls (rest))) : W p l e R s m args below meth c H locs cells slots Q (F0 m pc ls (.long (lZ y) :: .long (lZ x) :: rest)) := by
  refine W.lcmp hx hb d ?_
  have hx9 := lZ_lt a1 a2 b1 b2; have hy9 := lZ_lt b1 b2 a1 a2; have he9 := lZ_eq a1 a2 b1 b2
  refine lv_if_ge hx hb d2 ht (fun h => kt ?_) (fun h => kf ?_) <;>
  · rcases lg_cmp_cases (lZ x) (lZ y) with ⟨q, r⟩ | ⟨q, r⟩ | ⟨q, r⟩ <;> rw [r] at h <;> first | (have q := hx9.mp q; omega) | (have q := he9.mp q; omega) | (have q := hy9.mp q; omega) | exact absurd h (by decide)
theorem zl_gt (hx : p.tables.exec = Jvm.exec) (hb : c.code = cc) {x y : Int} {off : Int} {tgt : Nat} (d : decode cc pc = .ok (.lcmp, 1)) (d2 : decode cc (pc + 1) = .ok (.ifCond .gt off, 3)) (ht : ((pc + 1 : Nat) : Int) + off = (tgt : Int)) (a1 : -9223372036854775808 ≤ x) (a2 : x ≤ 9223372036854775807) (b1 : -9223372036854775808 ≤ y) (b2 : y ≤ 9223372036854775807) (kt : x > y → W p l e R s m args below meth c H locs cells slots Q (F0 m tgt ls (rest))) (kf : ¬ x > y → W p l e R s m args below meth c H locs cells slots Q (F0 m (pc + 4) ls (rest))) : W p l e R s m args below meth c H locs cells slots Q (F0 m pc ls (.long (lZ y) :: .long (lZ x) :: rest)) := by
  refine W.lcmp hx hb d ?_
  have hx9 := lZ_lt a1 a2 b1 b2; have hy9 := lZ_lt b1 b2 a1 a2; have he9 := lZ_eq a1 a2 b1 b2
  refine lv_if_gt hx hb d2 ht (fun h => kt ?_) (fun h => kf ?_) <;>
  · rcases lg_cmp_cases (lZ x) (lZ y) with ⟨q, r⟩ | ⟨q, r⟩ | ⟨q, r⟩ <;> rw [r] at h <;> first | (have q := hx9.mp q; omega) | (have q := he9.mp q; omega) | (have q := hy9.mp q; omega) | exact absurd h (by decide)
theorem zl_le (hx : p.tables.exec = Jvm.exec) (hb : c.code = cc) {x y : Int} {off : Int} {tgt : Nat} (d : decode cc pc = .ok (.lcmp, 1)) (d2 : decode cc (pc + 1) = .ok (.ifCond .le off, 3)) (ht : ((pc + 1 : Nat) : Int) + off = (tgt : Int)) (a1 : -9223372036854775808 ≤ x) (a2 : x ≤ 9223372036854775807) (b1 : -9223372036854775808 ≤ y) (b2 : y ≤ 9223372036854775807) (kt : x ≤ y → W p l e R s m args below meth c H locs cells slots Q (F0 m tgt ls (rest))) (kf : ¬ x ≤ y → W p l e R s m args below meth c H locs cells slots Q (F0 m (pc + 4) ls (rest))) : W p l e R s m args below meth c H locs cells slots Q (F0 m pc ls (.long (lZ y) :: .long (lZ x) :: rest)) := by
  refine W.lcmp hx hb d ?_
  have hx9 := lZ_lt a1 a2 b1 b2; have hy9 := lZ_lt b1 b2 a1 a2; have he9 := lZ_eq a1 a2 b1 b2
  refine lv_if_le hx hb d2 ht (fun h => kt ?_) (fun h => kf ?_) <;>
  · rcases lg_cmp_cases (lZ x) (lZ y) with ⟨q, r⟩ | ⟨q, r⟩ | ⟨q, r⟩ <;> rw [r] at h <;> first | (have q := hx9.mp q; omega) | (have q := he9.mp q; omega) | (have q := hy9.mp q; omega) | exact absurd h (by decide)
theorem zr_eq (hx : p.tables.exec = Jvm.exec) (hb : c.code = cc) {x y : Int64} {off : Int} {tgt : Nat} (d : decode cc pc = .ok (.lcmp, 1)) (d2 : decode cc (pc + 1) = .ok (.ifCond .eq off, 3)) (ht : ((pc + 1 : Nat) : Int) + off = (tgt : Int)) (kt : x = y → W p l e R s m args below meth c H locs cells slots Q (F0 m tgt ls (rest))) (kf : x ≠ y → W p l e R s m args below meth c H locs cells slots Q (F0 m (pc + 4) ls (rest))) : W p l e R s m args below meth c H locs cells slots Q (F0 m pc ls (.long y :: .long x :: rest)) := by
  refine W.lcmp hx hb d ?_
  have ltd : x < y → ¬ y < x ∧ x ≠ y := fun q => by rw [Int64.lt_iff_toInt_lt] at q; exact ⟨fun r => by rw [Int64.lt_iff_toInt_lt] at r; omega, fun r => by rw [r] at q; omega⟩
  have gtd : y < x → ¬ x < y ∧ x ≠ y := fun q => by rw [Int64.lt_iff_toInt_lt] at q; exact ⟨fun r => by rw [Int64.lt_iff_toInt_lt] at r; omega, fun r => by rw [r] at q; omega⟩
  have eqd : x = y → ¬ x < y ∧ ¬ y < x := fun q => by subst q; exact ⟨fun r => by rw [Int64.lt_iff_toInt_lt] at r; omega, fun r => by rw [Int64.lt_iff_toInt_lt] at r; omega⟩
  refine lv_if_eq hx hb d2 ht (fun h => kt ?_) (fun h => kf ?_) <;>
  · rcases lg_cmp_cases x y with ⟨q, r⟩ | ⟨q, r⟩ | ⟨q, r⟩ <;> rw [r] at h <;> first | exact absurd h (by decide) | exact q | exact (ltd q).1 | exact (ltd q).2 | exact (gtd q).1 | exact (gtd q).2 | exact (eqd q).1 | exact (eqd q).2
theorem zr_ne (hx : p.tables.exec = Jvm.exec) (hb : c.code = cc) {x y : Int64} {off : Int} {tgt : Nat} (d : decode cc pc = .ok (.lcmp, 1)) (d2 : decode cc (pc + 1) = .ok (.ifCond .ne off, 3)) (ht : ((pc + 1 : Nat) : Int) + off = (tgt : Int)) (kt : x ≠ y → W p l e R s m args below meth c H locs cells slots Q (F0 m tgt ls (rest))) (kf : x = y → W p l e R s m args below meth c H locs cells slots Q (F0 m (pc + 4) ls (rest))) : W p l e R s m args below meth c H locs cells slots Q (F0 m pc ls (.long y :: .long x :: rest)) := by
  refine W.lcmp hx hb d ?_
  have ltd : x < y → ¬ y < x ∧ x ≠ y := fun q => by rw [Int64.lt_iff_toInt_lt] at q; exact ⟨fun r => by rw [Int64.lt_iff_toInt_lt] at r; omega, fun r => by rw [r] at q; omega⟩
  have gtd : y < x → ¬ x < y ∧ x ≠ y := fun q => by rw [Int64.lt_iff_toInt_lt] at q; exact ⟨fun r => by rw [Int64.lt_iff_toInt_lt] at r; omega, fun r => by rw [r] at q; omega⟩
  have eqd : x = y → ¬ x < y ∧ ¬ y < x := fun q => by subst q; exact ⟨fun r => by rw [Int64.lt_iff_toInt_lt] at r; omega, fun r => by rw [Int64.lt_iff_toInt_lt] at r; omega⟩
  refine lv_if_ne hx hb d2 ht (fun h => kt ?_) (fun h => kf ?_) <;>
  · rcases lg_cmp_cases x y with ⟨q, r⟩ | ⟨q, r⟩ | ⟨q, r⟩ <;> rw [r] at h <;> first | exact absurd h (by decide) | exact q | exact (ltd q).1 | exact (ltd q).2 | exact (gtd q).1 | exact (gtd q).2 | exact (eqd q).1 | exact (eqd q).2
theorem zr_lt (hx : p.tables.exec = Jvm.exec) (hb : c.code = cc) {x y : Int64} {off : Int} {tgt : Nat} (d : decode cc pc = .ok (.lcmp, 1)) (d2 : decode cc (pc + 1) = .ok (.ifCond .lt off, 3)) (ht : ((pc + 1 : Nat) : Int) + off = (tgt : Int)) (kt : x < y → W p l e R s m args below meth c H locs cells slots Q (F0 m tgt ls (rest))) (kf : ¬ x < y → W p l e R s m args below meth c H locs cells slots Q (F0 m (pc + 4) ls (rest))) : W p l e R s m args below meth c H locs cells slots Q (F0 m pc ls (.long y :: .long x :: rest)) := by
  refine W.lcmp hx hb d ?_
  have ltd : x < y → ¬ y < x ∧ x ≠ y := fun q => by rw [Int64.lt_iff_toInt_lt] at q; exact ⟨fun r => by rw [Int64.lt_iff_toInt_lt] at r; omega, fun r => by rw [r] at q; omega⟩
  have gtd : y < x → ¬ x < y ∧ x ≠ y := fun q => by rw [Int64.lt_iff_toInt_lt] at q; exact ⟨fun r => by rw [Int64.lt_iff_toInt_lt] at r; omega, fun r => by rw [r] at q; omega⟩
  have eqd : x = y → ¬ x < y ∧ ¬ y < x := fun q => by subst q; exact ⟨fun r => by rw [Int64.lt_iff_toInt_lt] at r; omega, fun r => by rw [Int64.lt_iff_toInt_lt] at r; omega⟩
  refine lv_if_lt hx hb d2 ht (fun h => kt ?_) (fun h => kf ?_) <;>
  · rcases lg_cmp_cases x y with ⟨q, r⟩ | ⟨q, r⟩ | ⟨q, r⟩ <;> rw [r] at h <;> first | exact absurd h (by decide) | exact q | exact (ltd q).1 | exact (ltd q).2 | exact (gtd q).1 | exact (gtd q).2 | exact (eqd q).1 | exact (eqd q).2
theorem zr_ge (hx : p.tables.exec = Jvm.exec) (hb : c.code = cc) {x y : Int64} {off : Int} {tgt : Nat} (d : decode cc pc = .ok (.lcmp, 1)) (d2 : decode cc (pc + 1) = .ok (.ifCond .ge off, 3)) (ht : ((pc + 1 : Nat) : Int) + off = (tgt : Int)) (kt : ¬ x < y → W p l e R s m args below meth c H locs cells slots Q (F0 m tgt ls (rest))) (kf : x < y → W p l e R s m args below meth c H locs cells slots Q (F0 m (pc + 4) ls (rest))) : W p l e R s m args below meth c H locs cells slots Q (F0 m pc ls (.long y :: .long x :: rest)) := by
  refine W.lcmp hx hb d ?_
  have ltd : x < y → ¬ y < x ∧ x ≠ y := fun q => by rw [Int64.lt_iff_toInt_lt] at q; exact ⟨fun r => by rw [Int64.lt_iff_toInt_lt] at r; omega, fun r => by rw [r] at q; omega⟩
  have gtd : y < x → ¬ x < y ∧ x ≠ y := fun q => by rw [Int64.lt_iff_toInt_lt] at q; exact ⟨fun r => by rw [Int64.lt_iff_toInt_lt] at r; omega, fun r => by rw [r] at q; omega⟩
  have eqd : x = y → ¬ x < y ∧ ¬ y < x := fun q => by subst q; exact ⟨fun r => by rw [Int64.lt_iff_toInt_lt] at r; omega, fun r => by rw [Int64.lt_iff_toInt_lt] at r; omega⟩
  refine lv_if_ge hx hb d2 ht (fun h => kt ?_) (fun h => kf ?_) <;>
  · rcases lg_cmp_cases x y with ⟨q, r⟩ | ⟨q, r⟩ | ⟨q, r⟩ <;> rw [r] at h <;> first | exact absurd h (by decide) | exact q | exact (ltd q).1 | exact (ltd q).2 | exact (gtd q).1 | exact (gtd q).2 | exact (eqd q).1 | exact (eqd q).2
theorem zr_gt (hx : p.tables.exec = Jvm.exec) (hb : c.code = cc) {x y : Int64} {off : Int} {tgt : Nat} (d : decode cc pc = .ok (.lcmp, 1)) (d2 : decode cc (pc + 1) = .ok (.ifCond .gt off, 3)) (ht : ((pc + 1 : Nat) : Int) + off = (tgt : Int)) (kt : y < x → W p l e R s m args below meth c H locs cells slots Q (F0 m tgt ls (rest))) (kf : ¬ y < x → W p l e R s m args below meth c H locs cells slots Q (F0 m (pc + 4) ls (rest))) : W p l e R s m args below meth c H locs cells slots Q (F0 m pc ls (.long y :: .long x :: rest)) := by
  refine W.lcmp hx hb d ?_
  have ltd : x < y → ¬ y < x ∧ x ≠ y := fun q => by rw [Int64.lt_iff_toInt_lt] at q; exact ⟨fun r => by rw [Int64.lt_iff_toInt_lt] at r; omega, fun r => by rw [r] at q; omega⟩
  have gtd : y < x → ¬ x < y ∧ x ≠ y := fun q => by rw [Int64.lt_iff_toInt_lt] at q; exact ⟨fun r => by rw [Int64.lt_iff_toInt_lt] at r; omega, fun r => by rw [r] at q; omega⟩
  have eqd : x = y → ¬ x < y ∧ ¬ y < x := fun q => by subst q; exact ⟨fun r => by rw [Int64.lt_iff_toInt_lt] at r; omega, fun r => by rw [Int64.lt_iff_toInt_lt] at r; omega⟩
  refine lv_if_gt hx hb d2 ht (fun h => kt ?_) (fun h => kf ?_) <;>
  · rcases lg_cmp_cases x y with ⟨q, r⟩ | ⟨q, r⟩ | ⟨q, r⟩ <;> rw [r] at h <;> first | exact absurd h (by decide) | exact q | exact (ltd q).1 | exact (ltd q).2 | exact (gtd q).1 | exact (gtd q).2 | exact (eqd q).1 | exact (eqd q).2
theorem zr_le (hx : p.tables.exec = Jvm.exec) (hb : c.code = cc) {x y : Int64} {off : Int} {tgt : Nat} (d : decode cc pc = .ok (.lcmp, 1)) (d2 : decode cc (pc + 1) = .ok (.ifCond .le off, 3)) (ht : ((pc + 1 : Nat) : Int) + off = (tgt : Int)) (kt : ¬ y < x → W p l e R s m args below meth c H locs cells slots Q (F0 m tgt ls (rest))) (kf : y < x → W p l e R s m args below meth c H locs cells slots Q (F0 m (pc + 4) ls (rest))) : W p l e R s m args below meth c H locs cells slots Q (F0 m pc ls (.long y :: .long x :: rest)) := by
  refine W.lcmp hx hb d ?_
  have ltd : x < y → ¬ y < x ∧ x ≠ y := fun q => by rw [Int64.lt_iff_toInt_lt] at q; exact ⟨fun r => by rw [Int64.lt_iff_toInt_lt] at r; omega, fun r => by rw [r] at q; omega⟩
  have gtd : y < x → ¬ x < y ∧ x ≠ y := fun q => by rw [Int64.lt_iff_toInt_lt] at q; exact ⟨fun r => by rw [Int64.lt_iff_toInt_lt] at r; omega, fun r => by rw [r] at q; omega⟩
  have eqd : x = y → ¬ x < y ∧ ¬ y < x := fun q => by subst q; exact ⟨fun r => by rw [Int64.lt_iff_toInt_lt] at r; omega, fun r => by rw [Int64.lt_iff_toInt_lt] at r; omega⟩
  refine lv_if_le hx hb d2 ht (fun h => kt ?_) (fun h => kf ?_) <;>
  · rcases lg_cmp_cases x y with ⟨q, r⟩ | ⟨q, r⟩ | ⟨q, r⟩ <;> rw [r] at h <;> first | exact absurd h (by decide) | exact q | exact (ltd q).1 | exact (ltd q).2 | exact (gtd q).1 | exact (gtd q).2 | exact (eqd q).1 | exact (eqd q).2
theorem zn_z {x : Int} (k : ∀ y : Int, y = x → W p l e R s m args below meth c H locs cells slots Q (F0 m pc ls (.int (iZ y) :: rest))) : W p l e R s m args below meth c H locs cells slots Q (F0 m pc ls (.int (iZ x) :: rest)) := k x rfl
theorem zn_Z {x : Int} (k : ∀ y : Int, y = x → W p l e R s m args below meth c H locs cells slots Q (F0 m pc ls (.long (lZ y) :: rest))) : W p l e R s m args below meth c H locs cells slots Q (F0 m pc ls (.long (lZ x) :: rest)) := k x rfl
theorem zn_b {x : Bool} (k : ∀ y : Bool, y = x → W p l e R s m args below meth c H locs cells slots Q (F0 m pc ls (.int (bI y) :: rest))) : W p l e R s m args below meth c H locs cells slots Q (F0 m pc ls (.int (bI x) :: rest)) := k x rfl
theorem zn_eq {v1 v2 : Value} (h : v1 = v2) (k : W p l e R s m args below meth c H locs cells slots Q (F0 m pc ls (v2 :: rest))) : W p l e R s m args below meth c H locs cells slots Q (F0 m pc ls (v1 :: rest)) := by rw [h]; exact k
theorem zl_shr {b : Int} (s : Int) (h0 : 0 ≤ b) (h1 : b ≤ 4611686018427387903) (s0 : 0 ≤ s) (s1 : s < 64) : lZ b >>> ((iZ s).toInt64 &&& 63) = lZ (b / 2 ^ s.toNat) := by
  rw [show (iZ s) = nI s.toNat from by obtain ⟨n, rfl⟩ := Int.eq_ofNat_of_zero_le s0; exact Int32.ofInt_eq_ofNat, show lZ b = lN b.toNat from by obtain ⟨n, rfl⟩ := Int.eq_ofNat_of_zero_le h0; exact Int64.ofInt_eq_ofNat, wb_c _ (by omega)]
  rw [pf_shr (d := s.toNat) (by rw [wb_tb, wb_sm _ (by omega), BitVec.toNat_ofNat, Nat.mod_eq_of_lt (by omega)]) (by omega)]
  obtain ⟨n, rfl⟩ := Int.eq_ofNat_of_zero_le h0
  show Int64.ofNat (n / 2 ^ s.toNat) = Int64.ofInt ((n : Int) / 2 ^ s.toNat)
  rw [← Int64.ofInt_eq_ofNat]; congr 1
theorem zj_max (hx : p.tables.exec = Jvm.exec) (hb : c.code = cc) (hml : c.maxLocals = ls.size) {own : String} {index : Nat} (hown : s.vm.findClass own = some m.cls) (hlink : (Cond.methodLink own index Lib.Math.max.name).before args s = true) (hstat : (Cond.static Lib.Math.max.name).before args s = true) (hini : (Cond.initialized "java/lang/Math").before args s = true) (hcode : (Cond.code Lib.Math.max.name Lib.Math.max.code 2 (some .int)).before args s = true) (hf : 1 ≤ R.frames) (hlo : (rest.map fun v => v.category).sum + 13 ≤ R.locals) (hc : cells ≤ R.cells) (hs : slots ≤ R.slots) {x y : Int} (a1 : -2147483648 ≤ x) (a2 : x ≤ 2147483647) (b1 : -2147483648 ≤ y) (b2 : y ≤ 2147483647) (d : decode cc pc = .ok (.invokestatic index, 3)) (k : W p l e R s m args below meth c H locs cells slots Q (F0 m (pc + 3) ls (.int (iZ (max x y)) :: rest))) : W p l e R s m args below meth c H locs cells slots Q (F0 m pc ls (.int (iZ y) :: .int (iZ x) :: rest)) := by
  refine va_mmax hx hb hml hown hlink hstat hini hcode hf hlo hc hs d ?_
  by_cases h : x < y
  · have h9 : max x y = y := by omega
    rw [if_pos ((iZ_lt a1 a2 b1 b2).mpr h)]; rw [h9] at k; exact k
  · have h9 : max x y = x := by omega
    rw [if_neg (fun q => h ((iZ_lt a1 a2 b1 b2).mp q))]; rw [h9] at k; exact k
theorem zj_min (hx : p.tables.exec = Jvm.exec) (hb : c.code = cc) (hml : c.maxLocals = ls.size) {own : String} {index : Nat} (hown : s.vm.findClass own = some m.cls) (hlink : (Cond.methodLink own index Lib.Math.min.name).before args s = true) (hstat : (Cond.static Lib.Math.min.name).before args s = true) (hini : (Cond.initialized "java/lang/Math").before args s = true) (hcode : (Cond.code Lib.Math.min.name Lib.Math.min.code 2 (some .int)).before args s = true) (hf : 1 ≤ R.frames) (hlo : (rest.map fun v => v.category).sum + 13 ≤ R.locals) (hc : cells ≤ R.cells) (hs : slots ≤ R.slots) {x y : Int} (a1 : -2147483648 ≤ x) (a2 : x ≤ 2147483647) (b1 : -2147483648 ≤ y) (b2 : y ≤ 2147483647) (d : decode cc pc = .ok (.invokestatic index, 3)) (k : W p l e R s m args below meth c H locs cells slots Q (F0 m (pc + 3) ls (.int (iZ (min x y)) :: rest))) : W p l e R s m args below meth c H locs cells slots Q (F0 m pc ls (.int (iZ y) :: .int (iZ x) :: rest)) := by
  refine va_mmin hx hb hml hown hlink hstat hini hcode hf hlo hc hs d ?_
  by_cases h : y < x
  · have h9 : min x y = y := by omega
    rw [if_pos ((iZ_lt b1 b2 a1 a2).mpr h)]; rw [h9] at k; exact k
  · have h9 : min x y = x := by omega
    rw [if_neg (fun q => h ((iZ_lt b1 b2 a1 a2).mp q))]; rw [h9] at k; exact k
theorem z_lald (hx : p.tables.exec = Jvm.exec) (hb : c.code = cc) (hK : va_K D cl tys s) (hP : va_P D cl ws H) (q0 t0 : Nat) {cA : ClassId} {n : Nat} {G : Int → Int64} (ha : ws[q0]? = some (a, .inl (cA, n, .inr (.inl (aL G))))) (ht : tys[t0]? = some (cA, .long)) {i : Int} (h1 : 0 ≤ i) (h2 : i < n) (hn : n < 2147483648) (d : decode cc pc = .ok (.laload, 1)) (kk : W p l e R s m args below meth c H locs cells slots Q (F0 m (pc + 1) ls (.long (G i) :: rest))) : W p l e R s m args below meth c H locs cells slots Q (F0 m pc ls (.int (iZ i) :: .ref a :: rest)) := va_lald hx hb hK hP q0 t0 ha ht (iZ_in h1 h2 hn) d (by rw [aL_at G h1 (by omega)]; exact kk)
theorem z_last (hx : p.tables.exec = Jvm.exec) (hb : c.code = cc) (hK : va_K D cl tys s) (hP : va_P D cl ws H) (hD : va_D A ws) (hS : va_S A H0 H locs) (q0 t0 : Nat) {cA : ClassId} {n : Nat} {G : Int → Int64} (ha : ws[q0]? = some (a, .inl (cA, n, .inr (.inl (aL G))))) (ht : tys[t0]? = some (cA, .long)) {i : Int} {x : Int64} (h1 : 0 ≤ i) (h2 : i < n) (hn : n < 2147483648) (d : decode cc pc = .ok (.lastore, 1)) (kk : ∀ (H1 : Heap) (locs1 : List Loc), va_P D cl (ws.set q0 (a, .inl (cA, n, .inr (.inl (aL (upZ G i x)))))) H1 → va_D A (ws.set q0 (a, .inl (cA, n, .inr (.inl (aL (upZ G i x)))))) → va_S A H0 H1 locs1 → W p l e R s m args below meth c H1 locs1 cells slots Q (F0 m (pc + 1) ls rest)) : W p l e R s m args below meth c H locs cells slots Q (F0 m pc ls (.long x :: .int (iZ i) :: .ref a :: rest)) := va_last hx hb hK hP hD hS q0 t0 ha ht (iZ_in h1 h2 hn) d (fun H1 locs1 q1 q2 q3 => by rw [aL_up G x h1 (by omega)] at q1 q2; exact kk H1 locs1 q1 q2 q3)
theorem z_iald (hx : p.tables.exec = Jvm.exec) (hb : c.code = cc) (hK : va_K D cl tys s) (hP : va_P D cl ws H) (q0 t0 : Nat) {cA : ClassId} {n : Nat} {G : Int → Int32} (ha : ws[q0]? = some (a, .inl (cA, n, .inl (aI G)))) (ht : tys[t0]? = some (cA, .int)) {i : Int} (h1 : 0 ≤ i) (h2 : i < n) (hn : n < 2147483648) (d : decode cc pc = .ok (.iaload, 1)) (kk : W p l e R s m args below meth c H locs cells slots Q (F0 m (pc + 1) ls (.int (G i) :: rest))) : W p l e R s m args below meth c H locs cells slots Q (F0 m pc ls (.int (iZ i) :: .ref a :: rest)) := va_iald hx hb hK hP q0 t0 ha ht (iZ_in h1 h2 hn) d (by rw [aI_at G h1 (by omega)]; exact kk)
theorem z_iast (hx : p.tables.exec = Jvm.exec) (hb : c.code = cc) (hK : va_K D cl tys s) (hP : va_P D cl ws H) (hD : va_D A ws) (hS : va_S A H0 H locs) (q0 t0 : Nat) {cA : ClassId} {n : Nat} {G : Int → Int32} (ha : ws[q0]? = some (a, .inl (cA, n, .inl (aI G)))) (ht : tys[t0]? = some (cA, .int)) {i : Int} {x : Int32} (h1 : 0 ≤ i) (h2 : i < n) (hn : n < 2147483648) (d : decode cc pc = .ok (.iastore, 1)) (kk : ∀ (H1 : Heap) (locs1 : List Loc), va_P D cl (ws.set q0 (a, .inl (cA, n, .inl (aI (upZ G i x))))) H1 → va_D A (ws.set q0 (a, .inl (cA, n, .inl (aI (upZ G i x))))) → va_S A H0 H1 locs1 → W p l e R s m args below meth c H1 locs1 cells slots Q (F0 m (pc + 1) ls rest)) : W p l e R s m args below meth c H locs cells slots Q (F0 m pc ls (.int x :: .int (iZ i) :: .ref a :: rest)) := va_iast hx hb hK hP hD hS q0 t0 ha ht (iZ_in h1 h2 hn) d (fun H1 locs1 q1 q2 q3 => by rw [aI_up G x h1 (by omega)] at q1 q2; exact kk H1 locs1 q1 q2 q3)
theorem z_bald (hx : p.tables.exec = Jvm.exec) (hb : c.code = cc) (hK : va_K D cl tys s) (hP : va_P D cl ws H) (q0 t0 : Nat) {cA : ClassId} {n : Nat} {G : Int → Int32} (ha : ws[q0]? = some (a, .inl (cA, n, .inl (aI G)))) (ht : tys[t0]? = some (cA, .byte)) {i : Int} (h1 : 0 ≤ i) (h2 : i < n) (hn : n < 2147483648) (d : decode cc pc = .ok (.baload, 1)) (kk : W p l e R s m args below meth c H locs cells slots Q (F0 m (pc + 1) ls (.int (G i) :: rest))) : W p l e R s m args below meth c H locs cells slots Q (F0 m pc ls (.int (iZ i) :: .ref a :: rest)) := va_bald hx hb hK hP q0 t0 ha ht (iZ_in h1 h2 hn) d (by rw [aI_at G h1 (by omega)]; exact kk)
theorem z_bast (hx : p.tables.exec = Jvm.exec) (hb : c.code = cc) (hK : va_K D cl tys s) (hP : va_P D cl ws H) (hD : va_D A ws) (hS : va_S A H0 H locs) (q0 t0 : Nat) {cA : ClassId} {n : Nat} {G : Int → Int32} (ha : ws[q0]? = some (a, .inl (cA, n, .inl (aI G)))) (ht : tys[t0]? = some (cA, .byte)) {i : Int} {x : Int32} (h1 : 0 ≤ i) (h2 : i < n) (hn : n < 2147483648) (d : decode cc pc = .ok (.bastore, 1)) (kk : ∀ (H1 : Heap) (locs1 : List Loc), va_P D cl (ws.set q0 (a, .inl (cA, n, .inl (aI (upZ G i (vp_nar .byte x)))))) H1 → va_D A (ws.set q0 (a, .inl (cA, n, .inl (aI (upZ G i (vp_nar .byte x)))))) → va_S A H0 H1 locs1 → W p l e R s m args below meth c H1 locs1 cells slots Q (F0 m (pc + 1) ls rest)) : W p l e R s m args below meth c H locs cells slots Q (F0 m pc ls (.int x :: .int (iZ i) :: .ref a :: rest)) := va_bast hx hb hK hP hD hS q0 t0 ha ht (iZ_in h1 h2 hn) d (fun H1 locs1 q1 q2 q3 => by rw [aI_up G _ h1 (by omega)] at q1 q2; exact kk H1 locs1 q1 q2 q3)
theorem zl_tdiv (hx : p.tables.exec = Jvm.exec) (hb : c.code = cc) {x y : Int} (d : decode cc pc = .ok (.ldiv, 1)) (a1 : -9223372036854775808 < x) (a2 : x ≤ 9223372036854775807) (b0 : y ≠ 0) (b1 : -9223372036854775808 ≤ y) (b2 : y ≤ 9223372036854775807) (k : W p l e R s m args below meth c H locs cells slots Q (F0 m (pc + 1) ls (.long (lZ (x.tdiv y)) :: rest))) : W p l e R s m args below meth c H locs cells slots Q (F0 m pc ls (.long (lZ y) :: .long (lZ x) :: rest)) := by
  refine lv_ldiv hx hb d (fun h => ?_) ?_
  · rw [show (0 : Int64) = lZ 0 from rfl, lZ_eq (by omega) (by omega) (by omega) (by omega)] at h; exact b0 h
  · have h := Int64.ofInt_tdiv (a := x) (b := y) (by rw [Int64.toInt_minValue]; omega) (by rw [Int64.toInt_maxValue]; omega) (by rw [Int64.toInt_minValue]; omega) (by rw [Int64.toInt_maxValue]; omega)
    rw [show lZ x / lZ y = lZ (x.tdiv y) from h.symm]; exact k
theorem zt_in (hx : p.tables.exec = Jvm.exec) (hb : c.code = cc) {dflt lo hi : Int} {offs : Array Int} {len : Nat} {x k off : Int} {tgt : Nat} (d : decode cc pc = .ok (.tableswitch dflt lo hi offs, len)) (hk : x = k) (r1 : -2147483648 ≤ k) (r2 : k ≤ 2147483647) (h1 : ¬ k < lo) (h2 : ¬ hi < k) (ho : offs[(k - lo).toNat]? = some off) (ht : (pc : Int) + off = (tgt : Int)) (kk : W p l e R s m args below meth c H locs cells slots Q (F0 m tgt ls (rest))) : W p l e R s m args below meth c H locs cells slots Q (F0 m pc ls (.int (iZ x) :: rest)) := by
  subst hk
  have e9 := iZ_int r1 r2
  exact lv_tableIn hx hb d (by rw [e9]; exact h1) (by rw [e9]; exact h2) (by rw [e9]; exact ho) ht kk
theorem zt_out (hx : p.tables.exec = Jvm.exec) (hb : c.code = cc) {dflt lo hi : Int} {offs : Array Int} {len : Nat} {x : Int} {tgt : Nat} (d : decode cc pc = .ok (.tableswitch dflt lo hi offs, len)) (r1 : -2147483648 ≤ x) (r2 : x ≤ 2147483647) (h : x < lo ∨ hi < x) (ht : (pc : Int) + dflt = (tgt : Int)) (kk : W p l e R s m args below meth c H locs cells slots Q (F0 m tgt ls (rest))) : W p l e R s m args below meth c H locs cells slots Q (F0 m pc ls (.int (iZ x) :: rest)) := lv_tableOut hx hb d (by rw [iZ_int r1 r2]; exact h) ht kk
end ZR
section ZC
variable {p : Program} {l : Launch} {e : Env} {R : Room} {s : State} {m : MethodId} {args : Array Value} {below : List Frame} {meth : Method} {c : Code} {H : Heap} {locs : List Loc} {cells slots : Nat} {Q : State → Prop}
variable {pc : Nat} {ls : Array Slot} {rest st0 : List Value} {a : Array Value} {A : Nat → Prop} {H0 : Heap} {mc ms : Nat} {D : va_G} {cl : List vw_C}
/-- what a method that reads its cells asks for -/
def zPr (D : va_G) (cl : List vw_C) (ws : va_W) (tys : List (ClassId × FieldType)) (U : State) : Prop := va_P D cl ws U.heap ∧ va_K D cl tys U
/-- what a method that writes its cells asks for -/
def zPm (D : va_G) (cl : List vw_C) (ws : va_W) (tys : List (ClassId × FieldType)) (sz : Nat) (U : State) : Prop := U.heap.size = sz ∧ va_P D cl ws U.heap ∧ va_K D cl tys U ∧ va_D (fun _ => True) ws
/-- the cells behind a method -/
def zB (D : va_G) (cl : List vw_C) (tys : List (ClassId × FieldType)) (A : Nat → Prop) (w1 : va_W) (t : State) : Prop := va_P D cl w1 t.heap ∧ va_K D cl tys t ∧ va_D A w1
theorem zPr_blind {av : List Value} {ws : va_W} {tys : List (ClassId × FieldType)} : FrameBlind (va_Pc av (zPr D cl ws tys)) := fun a U g mk q => ⟨q.1, q.2.1, va_K.moved (u := U) (U := U.calling g mk a) (Vm.Alike.refl U.vm) q.2.2⟩
theorem zPm_blind {av : List Value} {ws : va_W} {tys : List (ClassId × FieldType)} {sz : Nat} : FrameBlind (va_Pc av (zPm D cl ws tys sz)) := fun a U g mk q => ⟨q.1, q.2.1, q.2.2.1, va_K.moved (u := U) (U := U.calling g mk a) (Vm.Alike.refl U.vm) q.2.2.2.1, q.2.2.2.2⟩
theorem zPr_pre {av : List Value} {ws ws' : va_W} {tys tys' : List (ClassId × FieldType)} (hP : va_P D cl ws H) (hK : va_K D cl tys s) (is js : List Nat) (h1 : is.filterMap (fun i => ws[i]?) = ws') (h2 : js.filterMap (fun i => tys[i]?) = tys') : ∀ U : State, U.heap = H → s.WarmedH U.vm → va_Pc av (zPr D cl ws' tys') av.toArray U :=
  fun U hU hW => ⟨rfl, by rw [hU]; exact hP.sub is h1, va_K.moved hW.alike (hK.sub js h2)⟩
theorem zPm_pre {av : List Value} {ws ws' : va_W} {tys tys' : List (ClassId × FieldType)} (hP : va_P D cl ws H) (hD : va_D A ws) (hK : va_K D cl tys s) (is js : List Nat) (hn : va_nd is = true) (h1 : is.map (fun i => ws[i]?) = ws'.map some) (h0 : is.filterMap (fun i => ws[i]?) = ws') (h2 : js.filterMap (fun i => tys[i]?) = tys') : ∀ U : State, U.heap = H → s.WarmedH U.vm → va_Pc av (zPm D cl ws' tys' H.size) av.toArray U :=
  fun U hU hW => ⟨rfl, by rw [hU], by rw [hU]; exact hP.sub is h0, va_K.moved hW.alike (hK.sub js h2), (hD.sub is hn h1).weaken (fun _ _ _ _ => trivial)⟩

theorem zc_i {S : Type} {post : Int32 → S → Prop} {w1 : S → va_W} {ws wc wr : va_W} {tyc : List (ClassId × FieldType)} (hr : va_Run p l e R s m args below meth c H locs cells slots mc ms (F0 m pc ls st0) rest (va_Qi post (fun u => zB D cl tyc (va_A wc H.size) (w1 u)) (va_A wc H.size) a) (va_A wc H.size)) (hP : va_P D cl ws H) (hD : va_D A ws) (hS : va_S A H0 H locs) (hA : ∀ q, H0.size ≤ q → A q) (isC isR : List Nat) (hC : isC.map (fun i => ws[i]?) = wc.map some) (hR : isR.map (fun i => ws[i]?) = wr.map some) (hn : va_nd isR = true) (hdis : ∀ i ∈ isR, i ∉ isC)
    (kk : ∀ (r : Int32) (u : S) (H1 : Heap) (locs1 : List Loc), post r u → va_P D cl (wr ++ w1 u) H1 → va_D A (wr ++ w1 u) → va_S A H0 H1 locs1 → W p l e R s m args below meth c H1 locs1 (cells + mc) (slots + ms) Q (F0 m (pc + 3) ls (.int r :: rest))) : W p l e R s m args below meth c H locs cells slots Q (F0 m pc ls st0) := by
  have hF := va_free hD hS hA isC hC
  refine va_calli hr hS (fun q _ h => hF q h) hF (fun r u t H1 locs1 ht hvm hp hB hz hk hS1 => ?_)
  obtain ⟨hP1, hK1, hD1⟩ := hB
  rw [ht] at hP1
  obtain ⟨hP2, hD2⟩ := va_join hP hD isC isR hC hR hn hdis hk hF hP1 hD1
  exact kk r u H1 locs1 hp hP2 hD2 hS1
theorem zc_l {S : Type} {post : Int64 → S → Prop} {w1 : S → va_W} {ws wc wr : va_W} {tyc : List (ClassId × FieldType)} (hr : va_Run p l e R s m args below meth c H locs cells slots mc ms (F0 m pc ls st0) rest (va_Ql post (fun u => zB D cl tyc (va_A wc H.size) (w1 u)) (va_A wc H.size) a) (va_A wc H.size)) (hP : va_P D cl ws H) (hD : va_D A ws) (hS : va_S A H0 H locs) (hA : ∀ q, H0.size ≤ q → A q) (isC isR : List Nat) (hC : isC.map (fun i => ws[i]?) = wc.map some) (hR : isR.map (fun i => ws[i]?) = wr.map some) (hn : va_nd isR = true) (hdis : ∀ i ∈ isR, i ∉ isC)
    (kk : ∀ (r : Int64) (u : S) (H1 : Heap) (locs1 : List Loc), post r u → va_P D cl (wr ++ w1 u) H1 → va_D A (wr ++ w1 u) → va_S A H0 H1 locs1 → W p l e R s m args below meth c H1 locs1 (cells + mc) (slots + ms) Q (F0 m (pc + 3) ls (.long r :: rest))) : W p l e R s m args below meth c H locs cells slots Q (F0 m pc ls st0) := by
  have hF := va_free hD hS hA isC hC
  refine va_calll hr hS (fun q _ h => hF q h) hF (fun r u t H1 locs1 ht hvm hp hB hz hk hS1 => ?_)
  obtain ⟨hP1, hK1, hD1⟩ := hB
  rw [ht] at hP1
  obtain ⟨hP2, hD2⟩ := va_join hP hD isC isR hC hR hn hdis hk hF hP1 hD1
  exact kk r u H1 locs1 hp hP2 hD2 hS1
theorem zc_v {S : Type} {post : S → Prop} {w1 : S → va_W} {ws wc wr : va_W} {tyc : List (ClassId × FieldType)} (hr : va_Run p l e R s m args below meth c H locs cells slots mc ms (F0 m pc ls st0) rest (va_Qv post (fun u => zB D cl tyc (va_A wc H.size) (w1 u)) (va_A wc H.size) a) (va_A wc H.size)) (hP : va_P D cl ws H) (hD : va_D A ws) (hS : va_S A H0 H locs) (hA : ∀ q, H0.size ≤ q → A q) (isC isR : List Nat) (hC : isC.map (fun i => ws[i]?) = wc.map some) (hR : isR.map (fun i => ws[i]?) = wr.map some) (hn : va_nd isR = true) (hdis : ∀ i ∈ isR, i ∉ isC)
    (kk : ∀ (u : S) (H1 : Heap) (locs1 : List Loc), post u → va_P D cl (wr ++ w1 u) H1 → va_D A (wr ++ w1 u) → va_S A H0 H1 locs1 → W p l e R s m args below meth c H1 locs1 (cells + mc) (slots + ms) Q (F0 m (pc + 3) ls (rest))) : W p l e R s m args below meth c H locs cells slots Q (F0 m pc ls st0) := by
  have hF := va_free hD hS hA isC hC
  refine va_callv hr hS (fun q _ h => hF q h) hF (fun u t H1 locs1 ht hvm hp hB hz hk hS1 => ?_)
  obtain ⟨hP1, hK1, hD1⟩ := hB
  rw [ht] at hP1
  obtain ⟨hP2, hD2⟩ := va_join hP hD isC isR hC hR hn hdis hk hF hP1 hD1
  exact kk u H1 locs1 hp hP2 hD2 hS1
end ZC
