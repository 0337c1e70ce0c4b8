theorem nfT {x : Bool} (h : ¬ x = false) : x = true := by cases x; exact absurd rfl h; rfl
/-! drafts: bytes and their bits; fonts: bits of a row -/
theorem iZ_tb (z : Int) : (iZ z).toBitVec = BitVec.ofInt 32 z := rfl
theorem iZ_shr {a s : Int} (a0 : 0 ≤ a) (a1 : a ≤ 2147483647) (s0 : 0 ≤ s) (s1 : s < 32) : iZ a >>> (iZ s &&& 31) = iZ (a / 2 ^ s.toNat) := by
  have h1 : ((iZ s &&& 31).toBitVec.smod 32).toNat = s.toNat := by
    rw [iZ_nI s0]; exact (show ∀ n, n < 32 → ((nI n &&& 31).toBitVec.smod 32).toNat = n by decide +kernel) _ (by omega)
  rw [iZ_nI a0, pk_shrN (by omega) _ s.toNat h1, iZ_nI (Int.ediv_nonneg a0 (Int.le_of_lt (Int.pow_pos (by decide))))]
  congr 1
  obtain ⟨n, rfl⟩ := Int.eq_ofNat_of_zero_le a0
  show n / 2 ^ s.toNat = ((n : Int) / 2 ^ s.toNat).toNat
  rw [show (2 : Int) ^ s.toNat = ((2 ^ s.toNat : Nat) : Int) by simp, ← Int.natCast_ediv]; rfl
theorem iZ_ushr {a s : Int} (a0 : 0 ≤ a) (a1 : a ≤ 2147483647) (s0 : 0 ≤ s) (s1 : s < 32) : ((iZ a).toUInt32 >>> ((iZ s).toUInt32 &&& Int32.toUInt32 31)).toInt32 = iZ (a / 2 ^ s.toNat) := by
  have h1 : (((iZ s).toUInt32 &&& Int32.toUInt32 31).toBitVec % 32).toNat = s.toNat := by
    rw [iZ_nI s0]; exact (show ∀ n, n < 32 → (((nI n).toUInt32 &&& Int32.toUInt32 31).toBitVec % 32).toNat = n by decide +kernel) _ (by omega)
  rw [iZ_nI a0, pk_ushrN (by omega) _ s.toNat h1, iZ_nI (Int.ediv_nonneg a0 (Int.le_of_lt (Int.pow_pos (by decide))))]
  congr 1
  obtain ⟨n, rfl⟩ := Int.eq_ofNat_of_zero_le a0
  show n / 2 ^ s.toNat = ((n : Int) / 2 ^ s.toNat).toNat
  rw [show (2 : Int) ^ s.toNat = ((2 ^ s.toNat : Nat) : Int) by simp, ← Int.natCast_ediv]; rfl
theorem iZ_and1 {a : Int} (a0 : 0 ≤ a) (a1 : a ≤ 2147483647) : iZ a &&& iZ 1 = iZ (a % 2) := by
  rw [iZ_nI a0, pk_andN (by omega) (m := iZ 1) 1 (by decide), iZ_nI (by omega)]
  congr 1
  omega
def bitD (b j : Int) : Bool := decide (b / 2 ^ (7 - j).toNat % 2 = 1)
def RepD (Y : Int → Int32) (n : Int) (dr : Int → Int) : Prop := ∀ k : Int, 0 ≤ k → k < n → Y k &&& iZ 255 = iZ (dr k) ∧ 0 ≤ dr k ∧ dr k ≤ 255
def bOf (v : Int64) (k : Int) : Int := ((v.toBitVec.toNat / 2 ^ (8 * k).toNat % 256 : Nat) : Int)
theorem bOf_in (v : Int64) (k : Int) : 0 ≤ bOf v k ∧ bOf v k ≤ 255 := by unfold bOf; omega
theorem bOf_c (v : Int64) {k : Int} (k0 : 0 ≤ k) (k1 : k < 8) : vp_nar .byte ((((v).toUInt64 >>> ((iZ (8 * k)).toInt64.toUInt64 &&& Int64.toUInt64 63)).toInt64).toInt32).toInt8.toInt32 &&& iZ 255 = iZ (bOf v k) := by
  rw [pk_vb]
  have e1 : ((v.toUInt64 >>> ((iZ (8 * k)).toInt64.toUInt64 &&& Int64.toUInt64 63)).toInt64).toBitVec.toNat = v.toBitVec.toNat / 2 ^ (8 * k).toNat := by
    rw [iZ_nI (by omega), wb_cu _ (by omega)]
    show (v.toUInt64 >>> UInt64.ofNat (8 * k).toNat).toNat = _
    rw [UInt64.toNat_shiftRight, UInt64.toNat_ofNat', Nat.mod_eq_of_lt (show (8 * k).toNat < 2 ^ 64 by omega), Nat.mod_eq_of_lt (show (8 * k).toNat < 64 by omega), Nat.shiftRight_eq_div_pow]
    rfl
  have e2 : ∀ x : Int32, x.toInt8.toInt32 &&& iZ 255 = x &&& iZ 255 := fun x => by
    apply Int32.toBitVec_inj.mp
    apply BitVec.eq_of_getLsbD_eq
    intro i hi
    rw [Int32.toBitVec_and, Int32.toBitVec_and, BitVec.getLsbD_and, BitVec.getLsbD_and]
    by_cases q : i < 8
    · congr 1
      show (BitVec.signExtend 32 (BitVec.signExtend 8 x.toBitVec)).getLsbD i = _
      rw [BitVec.getLsbD_signExtend, BitVec.getLsbD_signExtend]
      simp [q, hi]
    · rw [show (iZ 255).toBitVec.getLsbD i = false from ?_, Bool.and_false, Bool.and_false]
      exact (show ∀ i, i < 32 → ¬ i < 8 → (iZ 255).toBitVec.getLsbD i = false by decide +kernel) i hi q
  rw [e2]
  generalize hv : (v.toUInt64 >>> ((iZ (8 * k)).toInt64.toUInt64 &&& Int64.toUInt64 63)).toInt64 = y at e1 ⊢
  rw [pk_and _ (m := iZ 255) 8 (by decide), iZ_nI (bOf_in v k).1]
  congr 1
  show y.toInt32.toBitVec.toNat % 256 = (bOf v k).toNat
  have e3 : y.toInt32.toBitVec.toNat = y.toBitVec.toNat % 2 ^ 32 := by
    show (BitVec.signExtend 32 y.toBitVec).toNat = _
    rw [BitVec.signExtend_eq_setWidth_of_le _ (by decide), BitVec.toNat_setWidth]
  rw [e3, e1]
  unfold bOf
  omega
def fbit (v : Int32) (k : Int) : Bool := v.toBitVec.getLsbD k.toNat
theorem fb_ushr (v : Int32) {k : Int} (k0 : 0 ≤ k) (k1 : k < 32) : (((v.toUInt32 >>> ((iZ k).toUInt32 &&& Int32.toUInt32 31)).toInt32 &&& iZ 1) = 0) ↔ fbit v k = false := by
  have h := pk_ushr v (iZ k) k.toNat (by rw [iZ_nI k0]; exact (show ∀ n, n < 32 → (((nI n).toUInt32 &&& Int32.toUInt32 31).toBitVec % 32).toNat = n by decide +kernel) _ (by omega))
  rw [pk_and _ (m := iZ 1) 1 (by decide), h]
  unfold fbit
  rw [← BitVec.testBit_toNat, Nat.testBit_eq_decide_div_mod_eq, decide_eq_false_iff_not]
  have : nI (v.toBitVec.toNat / 2 ^ k.toNat % 2 ^ 1) = 0 ↔ v.toBitVec.toNat / 2 ^ k.toNat % 2 ^ 1 = 0 := by
    rw [← nI_0, nI_eq (by omega) (by decide)]
  rw [this]
  omega
/-- steps from a corner: along and across of a dot -/
def alg (q x y px py : Int) : Int := if q = 0 then px - x else if q = 1 then py - y else if q = 2 then x - px else y - py
def acr (q x y px py : Int) : Int := if q = 0 then py - y else if q = 1 then x - px else if q = 2 then y - py else px - x
def stB (q x y i j al ac px py : Int) : Bool := decide (i ≤ alg q x y px py ∧ alg q x y px py ≤ i + al - 1 ∧ j ≤ acr q x y px py ∧ acr q x y px py ≤ j + ac - 1)
theorem dr_step {K : Int → Int32} {dr : Int → Int} {v : Int64} {n k : Int} (hn : 0 ≤ n) (k0 : 0 ≤ k) (k1 : k < 8) (h : RepD K (n + k) (fun j => if j < n then dr j else bOf v (j - n))) :
    RepD (upZ K (n + k) (vp_nar .byte ((((v).toUInt64 >>> ((iZ (8 * k)).toInt64.toUInt64 &&& Int64.toUInt64 63)).toInt64).toInt32).toInt8.toInt32)) (n + (k + 1)) (fun j => if j < n then dr j else bOf v (j - n)) := by
  intro j j1 j2
  by_cases e : j = n + k
  · subst e
    rw [upZ_s]
    show _ = iZ (if n + k < n then _ else _) ∧ 0 ≤ (if n + k < n then _ else _) ∧ (if n + k < n then _ else _) ≤ 255
    rw [if_neg (by omega), show n + k - n = k by omega]
    exact ⟨bOf_c v k0 k1, bOf_in v k⟩
  · rw [upZ_n _ _ e]
    exact h j j1 (by omega)
theorem d_Dr_byteAt_0 : decode c_yDr_byteAt 0 = .ok (.iload_n 1, 1) := by decide +kernel
theorem d_Dr_byteAt_1 : decode c_yDr_byteAt 1 = .ok (.ifCond .lt 24, 3) := by decide +kernel
theorem d_Dr_byteAt_4 : decode c_yDr_byteAt 4 = .ok (.iload_n 1, 1) := by decide +kernel
theorem d_Dr_byteAt_5 : decode c_yDr_byteAt 5 = .ok (.aload_n 0, 1) := by decide +kernel
theorem d_Dr_byteAt_6 : decode c_yDr_byteAt 6 = .ok (.getfield 7, 3) := by decide +kernel
theorem d_Dr_byteAt_9 : decode c_yDr_byteAt 9 = .ok (.if_icmp .ge 16, 3) := by decide +kernel
theorem d_Dr_byteAt_12 : decode c_yDr_byteAt 12 = .ok (.aload_n 0, 1) := by decide +kernel
theorem d_Dr_byteAt_13 : decode c_yDr_byteAt 13 = .ok (.getfield 13, 3) := by decide +kernel
theorem d_Dr_byteAt_16 : decode c_yDr_byteAt 16 = .ok (.iload_n 1, 1) := by decide +kernel
theorem d_Dr_byteAt_17 : decode c_yDr_byteAt 17 = .ok (.baload, 1) := by decide +kernel
theorem d_Dr_byteAt_18 : decode c_yDr_byteAt 18 = .ok (.sipush 255, 3) := by decide +kernel
theorem d_Dr_byteAt_21 : decode c_yDr_byteAt 21 = .ok (.iand, 1) := by decide +kernel
theorem d_Dr_byteAt_22 : decode c_yDr_byteAt 22 = .ok (.goto 4, 3) := by decide +kernel
theorem d_Dr_byteAt_25 : decode c_yDr_byteAt 25 = .ok (.iconst 0, 1) := by decide +kernel
theorem d_Dr_byteAt_26 : decode c_yDr_byteAt 26 = .ok (.ireturn, 1) := by decide +kernel
set_option maxHeartbeats 4000000 in
set_option maxRecDepth 100000 in
theorem c_Draft_byteAt (l : Launch) (dC : Nat → ClassId) (dI : Nat → Nat → Nat) (hd hy : Nat) (cB : ClassId) (n : Int) (Y : Int → Int32) (dr : Int → Int) (k : Int) (n1 : 0 ≤ n) (n2 : n ≤ 4096) (hY : RepD Y n dr) (k1 : -2147483648 ≤ k) (k2 : k ≤ 2147483647) : Met l y_Dr_byteAt w_Dr_byteAt ({ frames := 0, cells := 0, slots := 0, locals := 0 }) (va_Pc [.ref hd, .int (iZ k)] (zPr (dC, dI) vwCl [(hd, .inr (0, [.int (iZ n), .ref hy])), (hy, .inl (cB, 4096, .inl (aI Y)))] [(cB, .byte)])) (vp_Si (fun r => r = iZ (if 0 ≤ k ∧ k < n then dr k else 0))) 0 0 (fun _ => False) := by
  refine Met.ofW (cc := c_yDr_byteAt) (maxL := 2) (ret := (some .int)) (by decide) rfl ?_
  intro p e s m args below meth c s₁ B hml hv
  obtain ⟨rfl, hP, hK⟩ := hv
  have hx := B.exec
  have hb := B.bytes
  have hr := B.returns
  have hts0 := atoms_spec (ws := w_Dr_byteAt) B.pre
  have hts : ∀ w ∈ gT, w.before _ s = true := fun w h => hts0 w (List.mem_cons_of_mem _ h)
  have hown : s.vm.findClass R_Dr = some m.cls := findClass_of_methodNamed B.named
  have hlocks := B.notSynchronized
  have hl := lv_entry ([.ref hd, .int (iZ k)]) (n := 2) (Nat.le_of_ble_eq_true rfl)
  rw [lg_entry_eq]
  generalize (lg_sl ([.ref hd, .int (iZ k)]) ++ List.replicate (2 - (lg_sl ([.ref hd, .int (iZ k)])).length) Slot.unset).toArray = ls at hl ⊢
  have hl : lv_has ls 2 [(0, .ref hd), (1, .int (iZ k))] := hl
  refine lv_iload_n hx hb d_Dr_byteAt_0 rfl (lv_at hl 1 rfl) ?_
  refine zi_if_lt (tgt := 25) hx hb d_Dr_byteAt_1 (by decide) (by omega) (by omega) (fun c_1 => ?_) (fun c_1 => ?_)
  · refine lv_iconst (v := iZ (0)) hx hb d_Dr_byteAt_25 rfl ?_
    exact W.iret hx hb hr (fun t ht hW => ⟨_, rfl, congrArg iZ (by rw [if_neg (by omega)]), ht⟩) (fun q h => nomatch h) d_Dr_byteAt_26
  · refine lv_iload_n hx hb d_Dr_byteAt_4 rfl (lv_at hl 1 rfl) ?_
    refine lv_aload_n hx hb d_Dr_byteAt_5 rfl (lv_at hl 0 rfl) ?_
    refine va_get (D := (dC, dI)) (ci := 0) (v := .int (iZ n)) (C := R_Dr) (T := T_Dr) (N := 2) hx hb hts wi_Dr hown hK hP 0 rfl rfl 0 (by decide) (hts _ t_93) (fun _ h9 => h9) rfl d_Dr_byteAt_6 ?_
    refine zi_ge (tgt := 25) hx hb d_Dr_byteAt_9 (by decide) (by omega) (by omega) (by omega) (by omega) (fun c_9 => ?_) (fun c_9 => ?_)
    · refine lv_iconst (v := iZ (0)) hx hb d_Dr_byteAt_25 rfl ?_
      exact W.iret hx hb hr (fun t ht hW => ⟨_, rfl, congrArg iZ (by rw [if_neg (by omega)]), ht⟩) (fun q h => nomatch h) d_Dr_byteAt_26
    · refine lv_aload_n hx hb d_Dr_byteAt_12 rfl (lv_at hl 0 rfl) ?_
      refine va_get (D := (dC, dI)) (ci := 0) (v := .ref hy) (C := R_Dr) (T := T_Dr) (N := 2) hx hb hts wi_Dr hown hK hP 0 rfl rfl 1 (by decide) (hts _ t_95) (fun _ h9 => h9) rfl d_Dr_byteAt_13 ?_
      refine lv_iload_n hx hb d_Dr_byteAt_16 rfl (lv_at hl 1 rfl) ?_
      refine z_bald hx hb hK hP 1 0 rfl rfl (by omega) (by omega) (by omega) d_Dr_byteAt_17 ?_
      refine lv_sipush (v := iZ (255)) hx hb d_Dr_byteAt_18 (by decide) ?_
      refine lv_iand hx hb d_Dr_byteAt_21 ?_
      refine zn_eq (v2 := .int (iZ (dr k))) (congrArg _ ((hY k (by omega) (by omega)).1)) ?_
      refine lv_goto (tgt := 26) hx hb d_Dr_byteAt_22 (by decide) ?_
      exact W.iret hx hb hr (fun t ht hW => ⟨_, rfl, congrArg iZ (by rw [if_pos (by omega)]), ht⟩) (fun q h => nomatch h) d_Dr_byteAt_26
theorem d_Dr_hasBit_0 : decode c_yDr_hasBit 0 = .ok (.aload_n 0, 1) := by decide +kernel
theorem d_Dr_hasBit_1 : decode c_yDr_hasBit 1 = .ok (.iload_n 1, 1) := by decide +kernel
theorem d_Dr_hasBit_2 : decode c_yDr_hasBit 2 = .ok (.bipush 8, 2) := by decide +kernel
theorem d_Dr_hasBit_4 : decode c_yDr_hasBit 4 = .ok (.idiv, 1) := by decide +kernel
theorem d_Dr_hasBit_5 : decode c_yDr_hasBit 5 = .ok (.invokevirtual 17, 3) := by decide +kernel
theorem d_Dr_hasBit_8 : decode c_yDr_hasBit 8 = .ok (.bipush 7, 2) := by decide +kernel
theorem d_Dr_hasBit_10 : decode c_yDr_hasBit 10 = .ok (.iload_n 1, 1) := by decide +kernel
theorem d_Dr_hasBit_11 : decode c_yDr_hasBit 11 = .ok (.bipush 8, 2) := by decide +kernel
theorem d_Dr_hasBit_13 : decode c_yDr_hasBit 13 = .ok (.irem, 1) := by decide +kernel
theorem d_Dr_hasBit_14 : decode c_yDr_hasBit 14 = .ok (.isub, 1) := by decide +kernel
theorem d_Dr_hasBit_15 : decode c_yDr_hasBit 15 = .ok (.ishr, 1) := by decide +kernel
theorem d_Dr_hasBit_16 : decode c_yDr_hasBit 16 = .ok (.iconst 1, 1) := by decide +kernel
theorem d_Dr_hasBit_17 : decode c_yDr_hasBit 17 = .ok (.iand, 1) := by decide +kernel
theorem d_Dr_hasBit_18 : decode c_yDr_hasBit 18 = .ok (.ifCond .eq 7, 3) := by decide +kernel
theorem d_Dr_hasBit_21 : decode c_yDr_hasBit 21 = .ok (.iconst 1, 1) := by decide +kernel
theorem d_Dr_hasBit_22 : decode c_yDr_hasBit 22 = .ok (.goto 4, 3) := by decide +kernel
theorem d_Dr_hasBit_25 : decode c_yDr_hasBit 25 = .ok (.iconst 0, 1) := by decide +kernel
theorem d_Dr_hasBit_26 : decode c_yDr_hasBit 26 = .ok (.ireturn, 1) := by decide +kernel
set_option maxHeartbeats 4000000 in
set_option maxRecDepth 100000 in
theorem c_Draft_hasBit (l : Launch) (dC : Nat → ClassId) (dI : Nat → Nat → Nat) (hd hy : Nat) (cB : ClassId) (n : Int) (Y : Int → Int32) (dr : Int → Int) (k : Int) (n1 : 0 ≤ n) (n2 : n ≤ 4096) (hY : RepD Y n dr) (k1 : 0 ≤ k) (k2 : k < 8 * n) : Met l y_Dr_hasBit w_Dr_hasBit ({ frames := 1, cells := 0, slots := 0, locals := 21 }) (va_Pc [.ref hd, .int (iZ k)] (zPr (dC, dI) vwCl [(hd, .inr (0, [.int (iZ n), .ref hy])), (hy, .inl (cB, 4096, .inl (aI Y)))] [(cB, .byte)])) (vp_Si (fun r => r = bI (bitD (dr (k / 8)) (k % 8)))) 0 0 (fun _ => False) := by
  refine Met.ofW (cc := c_yDr_hasBit) (maxL := 2) (ret := (some .boolean)) (by decide) rfl ?_
  intro p e s m args below meth c s₁ B hml hv
  obtain ⟨rfl, hP, hK⟩ := hv
  have hx := B.exec
  have hb := B.bytes
  have hr := B.returns
  have hts0 := atoms_spec (ws := w_Dr_hasBit) B.pre
  have hts : ∀ w ∈ gT, w.before _ s = true := fun w h => hts0 w (List.mem_cons_of_mem _ h)
  have hown : s.vm.findClass R_Dr = some m.cls := findClass_of_methodNamed B.named
  have hlocks := B.notSynchronized
  have hl := lv_entry ([.ref hd, .int (iZ k)]) (n := 2) (Nat.le_of_ble_eq_true rfl)
  rw [lg_entry_eq]
  generalize (lg_sl ([.ref hd, .int (iZ k)]) ++ List.replicate (2 - (lg_sl ([.ref hd, .int (iZ k)])).length) Slot.unset).toArray = ls at hl ⊢
  have hl : lv_has ls 2 [(0, .ref hd), (1, .int (iZ k))] := hl
  refine lv_aload_n hx hb d_Dr_hasBit_0 rfl (lv_at hl 0 rfl) ?_
  refine lv_iload_n hx hb d_Dr_hasBit_1 rfl (lv_at hl 1 rfl) ?_
  refine lv_bipush (v := iZ (8)) hx hb d_Dr_hasBit_2 (by decide) ?_
  refine zi_div hx hb d_Dr_hasBit_4 (by omega) (by omega) (by omega) (by omega) ?_
  refine vp_callSi (va_runV (As := [.int (iZ (k / 8))]) (rest := []) ⟨hx, hb, hml, hown, hts⟩ (c_Draft_byteAt l dC dI hd hy cB n Y dr (k / 8) (by first | omega | assumption) (by first | omega | assumption) (by first | omega | assumption) (by first | omega | assumption) (by first | omega | assumption)) (cwV 1 hts (gV t_545 t_494 t_495 t_4 t_496) rfl rfl rfl (by decide +kernel) ⟨Nat.le_of_ble_eq_true rfl, Nat.le_of_ble_eq_true rfl⟩) ⟨zPr_blind, va_recv hK hP (ci := 0) (q0 := 0) rfl rfl, zPr_pre hP hK [0, 1] [0] rfl rfl⟩ rfl rfl hl.1 rfl (lv_room (Nat.le_of_ble_eq_true rfl)) d_Dr_hasBit_5 ⟨Nat.le_of_ble_eq_true rfl, Nat.le_of_ble_eq_true rfl⟩).run (fun r_5 q_5 => ?_)
  obtain rfl := q_5
  rw [if_pos (by omega)]
  have b9 := (hY (k / 8) (by omega) (by omega)).2
  refine lv_bipush (v := iZ (7)) hx hb d_Dr_hasBit_8 (by decide) ?_
  refine lv_iload_n hx hb d_Dr_hasBit_10 rfl (lv_at hl 1 rfl) ?_
  refine lv_bipush (v := iZ (8)) hx hb d_Dr_hasBit_11 (by decide) ?_
  refine zi_rem hx hb d_Dr_hasBit_13 (by omega) (by omega) (by omega) (by omega) ?_
  refine zi_sub hx hb d_Dr_hasBit_14 ?_
  refine lv_ishr hx hb d_Dr_hasBit_15 ?_
  refine zn_eq (v2 := .int (iZ (dr (k / 8) / 2 ^ (7 - k % 8).toNat))) (congrArg _ (iZ_shr (by omega) (by omega) (by omega) (by omega))) ?_
  have d9 : 0 ≤ dr (k / 8) / 2 ^ (7 - k % 8).toNat ∧ dr (k / 8) / 2 ^ (7 - k % 8).toNat ≤ dr (k / 8) := ⟨Int.ediv_nonneg b9.1 (Int.le_of_lt (Int.pow_pos (by decide))), Int.ediv_le_self _ b9.1⟩
  refine lv_iconst (v := iZ (1)) hx hb d_Dr_hasBit_16 rfl ?_
  refine lv_iand hx hb d_Dr_hasBit_17 ?_
  refine zn_eq (v2 := .int (iZ (dr (k / 8) / 2 ^ (7 - k % 8).toNat % 2))) (congrArg _ (iZ_and1 d9.1 (by omega))) ?_
  refine zi_if_eq (tgt := 25) hx hb d_Dr_hasBit_18 (by decide) (by omega) (by omega) (fun c_18 => ?_) (fun c_18 => ?_)
  · refine lv_iconst (v := iZ (0)) hx hb d_Dr_hasBit_25 rfl ?_
    exact W.zret (ty := .boolean) hx hb hr (by decide) (fun t ht hW => ⟨_, rfl, by rw [show bitD (dr (k / 8)) (k % 8) = false from decide_eq_false (by omega)]; rfl, ht⟩) (fun q h => nomatch h) d_Dr_hasBit_26
  · refine lv_iconst (v := iZ (1)) hx hb d_Dr_hasBit_21 rfl ?_
    refine lv_goto (tgt := 26) hx hb d_Dr_hasBit_22 (by decide) ?_
    exact W.zret (ty := .boolean) hx hb hr (by decide) (fun t ht hW => ⟨_, rfl, by rw [show bitD (dr (k / 8)) (k % 8) = true from decide_eq_true (by omega)]; rfl, ht⟩) (fun q h => nomatch h) d_Dr_hasBit_26
theorem d_Dr_append_0 : decode c_yDr_append 0 = .ok (.aload_n 0, 1) := by decide +kernel
theorem d_Dr_append_1 : decode c_yDr_append 1 = .ok (.getfield 7, 3) := by decide +kernel
theorem d_Dr_append_4 : decode c_yDr_append 4 = .ok (.iload_n 1, 1) := by decide +kernel
theorem d_Dr_append_5 : decode c_yDr_append 5 = .ok (.iadd, 1) := by decide +kernel
theorem d_Dr_append_6 : decode c_yDr_append 6 = .ok (.sipush 4096, 3) := by decide +kernel
theorem d_Dr_append_9 : decode c_yDr_append 9 = .ok (.if_icmp .le 5, 3) := by decide +kernel
theorem d_Dr_append_12 : decode c_yDr_append 12 = .ok (.iconst 0, 1) := by decide +kernel
theorem d_Dr_append_13 : decode c_yDr_append 13 = .ok (.ireturn, 1) := by decide +kernel
theorem d_Dr_append_14 : decode c_yDr_append 14 = .ok (.iconst 0, 1) := by decide +kernel
theorem d_Dr_append_15 : decode c_yDr_append 15 = .ok (.istore 4, 2) := by decide +kernel
theorem d_Dr_append_17 : decode c_yDr_append 17 = .ok (.iload 4, 2) := by decide +kernel
theorem d_Dr_append_19 : decode c_yDr_append 19 = .ok (.iload_n 1, 1) := by decide +kernel
theorem d_Dr_append_20 : decode c_yDr_append 20 = .ok (.if_icmp .ge 30, 3) := by decide +kernel
theorem d_Dr_append_23 : decode c_yDr_append 23 = .ok (.aload_n 0, 1) := by decide +kernel
theorem d_Dr_append_24 : decode c_yDr_append 24 = .ok (.getfield 13, 3) := by decide +kernel
theorem d_Dr_append_27 : decode c_yDr_append 27 = .ok (.aload_n 0, 1) := by decide +kernel
theorem d_Dr_append_28 : decode c_yDr_append 28 = .ok (.getfield 7, 3) := by decide +kernel
theorem d_Dr_append_31 : decode c_yDr_append 31 = .ok (.iload 4, 2) := by decide +kernel
theorem d_Dr_append_33 : decode c_yDr_append 33 = .ok (.iadd, 1) := by decide +kernel
theorem d_Dr_append_34 : decode c_yDr_append 34 = .ok (.lload_n 2, 1) := by decide +kernel
theorem d_Dr_append_35 : decode c_yDr_append 35 = .ok (.bipush 8, 2) := by decide +kernel
theorem d_Dr_append_37 : decode c_yDr_append 37 = .ok (.iload 4, 2) := by decide +kernel
theorem d_Dr_append_39 : decode c_yDr_append 39 = .ok (.imul, 1) := by decide +kernel
theorem d_Dr_append_40 : decode c_yDr_append 40 = .ok (.lushr, 1) := by decide +kernel
theorem d_Dr_append_41 : decode c_yDr_append 41 = .ok (.l2i, 1) := by decide +kernel
theorem d_Dr_append_42 : decode c_yDr_append 42 = .ok (.i2b, 1) := by decide +kernel
theorem d_Dr_append_43 : decode c_yDr_append 43 = .ok (.bastore, 1) := by decide +kernel
theorem d_Dr_append_44 : decode c_yDr_append 44 = .ok (.iinc 4 1, 3) := by decide +kernel
theorem d_Dr_append_47 : decode c_yDr_append 47 = .ok (.goto (-30), 3) := by decide +kernel
theorem d_Dr_append_50 : decode c_yDr_append 50 = .ok (.aload_n 0, 1) := by decide +kernel
theorem d_Dr_append_51 : decode c_yDr_append 51 = .ok (.dup, 1) := by decide +kernel
theorem d_Dr_append_52 : decode c_yDr_append 52 = .ok (.getfield 7, 3) := by decide +kernel
theorem d_Dr_append_55 : decode c_yDr_append 55 = .ok (.iload_n 1, 1) := by decide +kernel
theorem d_Dr_append_56 : decode c_yDr_append 56 = .ok (.iadd, 1) := by decide +kernel
theorem d_Dr_append_57 : decode c_yDr_append 57 = .ok (.putfield 7, 3) := by decide +kernel
theorem d_Dr_append_60 : decode c_yDr_append 60 = .ok (.iconst 1, 1) := by decide +kernel
theorem d_Dr_append_61 : decode c_yDr_append 61 = .ok (.ireturn, 1) := by decide +kernel
set_option maxHeartbeats 4000000 in
set_option maxRecDepth 100000 in
theorem c_Draft_append (l : Launch) (dC : Nat → ClassId) (dI : Nat → Nat → Nat) (hd hy : Nat) (cB : ClassId) (n : Int) (Y : Int → Int32) (dr : Int → Int) (a : Int) (v : Int64) (sz : Nat) (n1 : 0 ≤ n) (n2 : n ≤ 4096) (hY : RepD Y n dr) (a1 : 1 ≤ a) (a2 : a ≤ 8) : Met l y_Dr_append w_Dr_append ({ frames := 0, cells := 0, slots := 0, locals := 0 }) (va_Pc [.ref hd, .int (iZ a), .long v] (zPm (dC, dI) vwCl [(hd, .inr (0, [.int (iZ n), .ref hy])), (hy, .inl (cB, 4096, .inl (aI Y)))] [(cB, .byte)] sz)) (va_Qi (fun (r : Int32) (u : (Int → Int32) × Int) => r = bI (decide (n + a ≤ 4096)) ∧ (n + a ≤ 4096 → u.2 = n + a ∧ RepD u.1 (n + a) (fun j => if j < n then dr j else bOf v (j - n))) ∧ (¬ n + a ≤ 4096 → u.1 = Y ∧ u.2 = n)) (fun u => zB (dC, dI) vwCl [(cB, .byte)] (va_A [(hd, .inr (0, [.int (iZ n), .ref hy])), (hy, .inl (cB, 4096, .inl (aI Y)))] sz) [(hd, .inr (0, [.int (iZ u.2), .ref hy])), (hy, .inl (cB, 4096, .inl (aI u.1)))]) (va_A [(hd, .inr (0, [.int (iZ n), .ref hy])), (hy, .inl (cB, 4096, .inl (aI Y)))] sz)) 0 0 (va_A [(hd, .inr (0, [.int (iZ n), .ref hy])), (hy, .inl (cB, 4096, .inl (aI Y)))] sz) := by
  refine Met.ofW (cc := c_yDr_append) (maxL := 5) (ret := (some .boolean)) (by decide) rfl ?_
  intro p e s m args below meth c s₁ B hml hv
  obtain ⟨rfl, hsz, hP, hK, hD0⟩ := hv
  have hx := B.exec
  have hb := B.bytes
  have hr := B.returns
  have hts0 := atoms_spec (ws := w_Dr_append) B.pre
  have hts : ∀ w ∈ gT, w.before _ s = true := fun w h => hts0 w (List.mem_cons_of_mem _ h)
  have hown : s.vm.findClass R_Dr = some m.cls := findClass_of_methodNamed B.named
  have hlocks := B.notSynchronized
  subst hsz
  have hD := hD0.self (sz := s.heap.size)
  generalize hAe : va_A [(hd, .inr (0, [.int (iZ n), .ref hy])), (hy, .inl (cB, 4096, .inl (aI Y)))] s.heap.size = A at hD ⊢
  have hA : ∀ q : Nat, s.heap.size ≤ q → A q := fun q h => by rw [← hAe]; exact Or.inr h
  obtain ⟨H, hH⟩ : ∃ H, s.heap = H := ⟨_, rfl⟩
  have hS : va_S A s.heap H [] := by rw [← hH]; exact va_S.rf
  rw [hH] at hP
  rw [hH]
  have hl := lv_entry ([.ref hd, .int (iZ a), .long v]) (n := 5) (Nat.le_of_ble_eq_true rfl)
  rw [lg_entry_eq]
  generalize (lg_sl ([.ref hd, .int (iZ a), .long v]) ++ List.replicate (5 - (lg_sl ([.ref hd, .int (iZ a), .long v])).length) Slot.unset).toArray = ls at hl ⊢
  have hl : lv_has ls 5 [(0, .ref hd), (1, .int (iZ a)), (2, .long v)] := hl
  refine lv_aload_n hx hb d_Dr_append_0 rfl (lv_at hl 0 rfl) ?_
  refine va_get (D := (dC, dI)) (ci := 0) (v := .int (iZ n)) (C := R_Dr) (T := T_Dr) (N := 2) hx hb hts wi_Dr hown hK hP 0 rfl rfl 0 (by decide) (hts _ t_93) (fun _ h9 => h9) rfl d_Dr_append_1 ?_
  refine lv_iload_n hx hb d_Dr_append_4 rfl (lv_at hl 1 rfl) ?_
  refine zi_add hx hb d_Dr_append_5 ?_
  refine lv_sipush (v := iZ (4096)) hx hb d_Dr_append_6 (by decide) ?_
  refine zi_le (tgt := 14) hx hb d_Dr_append_9 (by decide) (by omega) (by omega) (by omega) (by omega) (fun c_9 => ?_) (fun c_9 => ?_)
  · refine lv_iconst (v := iZ (0)) hx hb d_Dr_append_14 rfl ?_
    refine lv_istore (lv' := [(4, .int (iZ 0)), (0, .ref hd), (1, .int (iZ a)), (2, .long v)]) hx hb d_Dr_append_15 hl (by decide) rfl (fun ls hl => ?_)
    have LP_17 : ∀ (n_17 : Nat) (k : Int) (K : Int → Int32), (0 ≤ k) → (k ≤ a) → (RepD K (n + k) (fun j => if j < n then dr j else bOf v (j - n))) → (a - k).toNat < n_17 → ∀ (H : Heap) (locs : List Loc), va_P (dC, dI) vwCl [(hd, .inr (0, [.int (iZ n), .ref hy])), (hy, .inl (cB, 4096, .inl (aI K)))] H → va_D A [(hd, .inr (0, [.int (iZ n), .ref hy])), (hy, .inl (cB, 4096, .inl (aI K)))] → va_S A s.heap H locs → ∀ (ls : Array Slot), lv_has ls 5 [(0, .ref hd), (1, .int (iZ a)), (2, .long v), (4, .int (iZ k))] → W p l e ({ frames := 0, cells := 0, slots := 0, locals := 0 } : Room) s m ([.ref hd, .int (iZ a), .long v] : List Value).toArray below meth c H locs 0 0 (MQ below (va_Qi (fun (r : Int32) (u : (Int → Int32) × Int) => r = bI (decide (n + a ≤ 4096)) ∧ (n + a ≤ 4096 → u.2 = n + a ∧ RepD u.1 (n + a) (fun j => if j < n then dr j else bOf v (j - n))) ∧ (¬ n + a ≤ 4096 → u.1 = Y ∧ u.2 = n)) (fun u => zB (dC, dI) vwCl [(cB, .byte)] A [(hd, .inr (0, [.int (iZ u.2), .ref hy])), (hy, .inl (cB, 4096, .inl (aI u.1)))]) A) ([.ref hd, .int (iZ a), .long v] : List Value).toArray s 0 0 A) (F0 m 17 ls []) := by
      intro n_17
      induction n_17 with
      | zero => intro k K i1 i2 i3 hm; exact absurd hm (by omega)
      | succ n_17 ih_17 =>
        intro k K i1 i2 i3 hm_17 H locs hP hD hS ls hl
        refine lv_iload hx hb d_Dr_append_17 (lv_at hl 3 rfl) ?_
        refine lv_iload_n hx hb d_Dr_append_19 rfl (lv_at hl 1 rfl) ?_
        refine zi_ge (tgt := 50) hx hb d_Dr_append_20 (by decide) (by omega) (by omega) (by omega) (by omega) (fun c_20 => ?_) (fun c_20 => ?_)
        · refine lv_aload_n hx hb d_Dr_append_50 rfl (lv_at hl 0 rfl) ?_
          refine lv_dup hx hb d_Dr_append_51 rfl ?_
          refine va_get (D := (dC, dI)) (ci := 0) (v := .int (iZ n)) (C := R_Dr) (T := T_Dr) (N := 2) hx hb hts wi_Dr hown hK hP 0 rfl rfl 0 (by decide) (hts _ t_93) (fun _ h9 => h9) rfl d_Dr_append_52 ?_
          refine lv_iload_n hx hb d_Dr_append_55 rfl (lv_at hl 1 rfl) ?_
          refine zi_add hx hb d_Dr_append_56 ?_
          refine va_put (D := (dC, dI)) (ci := 0) (v := .int (iZ (n + a))) (ty := .int) (C := R_Dr) (T := T_Dr) (N := 2) hx hb hts wi_Dr ty_Dr ty_Dr_ok nd_Dr hown hK hP hD hS 0 rfl rfl 0 (by decide) (hts _ t_93) (fun _ h9 => h9) rfl (by decide +kernel) rfl rfl (Nat.le_of_ble_eq_true rfl) d_Dr_append_57 (fun H locs hP hD hS => ?_)
          have hP : va_P (dC, dI) vwCl [(hd, .inr (0, [.int (iZ (n + a)), .ref hy])), (hy, .inl (cB, 4096, .inl (aI K)))] H := hP
          have hD : va_D A [(hd, .inr (0, [.int (iZ (n + a)), .ref hy])), (hy, .inl (cB, 4096, .inl (aI K)))] := hD
          refine lv_iconst (v := iZ (1)) hx hb d_Dr_append_60 rfl ?_
          exact W.zret (ty := .boolean) hx hb hr (by decide) (fun t ht hW => ⟨⟨_, ((K, n + a)), rfl, ⟨by rw [decide_eq_true (by omega)]; rfl, fun _ => ⟨rfl, by rw [show n + a = n + k by omega]; exact i3⟩, fun q => absurd (by omega) q⟩, by rw [ht]; exact hP, va_K.moved hW.alike hK, hD⟩, hS.F ht⟩) hS.2.2 d_Dr_append_61
        · refine lv_aload_n hx hb d_Dr_append_23 rfl (lv_at hl 0 rfl) ?_
          refine va_get (D := (dC, dI)) (ci := 0) (v := .ref hy) (C := R_Dr) (T := T_Dr) (N := 2) hx hb hts wi_Dr hown hK hP 0 rfl rfl 1 (by decide) (hts _ t_95) (fun _ h9 => h9) rfl d_Dr_append_24 ?_
          refine lv_aload_n hx hb d_Dr_append_27 rfl (lv_at hl 0 rfl) ?_
          refine va_get (D := (dC, dI)) (ci := 0) (v := .int (iZ n)) (C := R_Dr) (T := T_Dr) (N := 2) hx hb hts wi_Dr hown hK hP 0 rfl rfl 0 (by decide) (hts _ t_93) (fun _ h9 => h9) rfl d_Dr_append_28 ?_
          refine lv_iload hx hb d_Dr_append_31 (lv_at hl 3 rfl) ?_
          refine zi_add hx hb d_Dr_append_33 ?_
          refine lv_lload_n hx hb d_Dr_append_34 rfl (lv_at hl 2 rfl) ?_
          refine lv_bipush (v := iZ (8)) hx hb d_Dr_append_35 (by decide) ?_
          refine lv_iload hx hb d_Dr_append_37 (lv_at hl 3 rfl) ?_
          refine zi_mul hx hb d_Dr_append_39 ?_
          refine lv_lushr hx hb d_Dr_append_40 rfl ?_
          refine lv_l2i hx hb d_Dr_append_41 rfl ?_
          refine lv_i2b hx hb d_Dr_append_42 rfl ?_
          refine z_bast hx hb hK hP hD hS 1 0 rfl rfl (by omega) (by omega) (by omega) d_Dr_append_43 (fun H locs hP hD hS => ?_)
          have hP : va_P (dC, dI) vwCl [(hd, .inr (0, [.int (iZ n), .ref hy])), (hy, .inl (cB, 4096, .inl (aI (upZ K (n + k) (vp_nar .byte (((((v).toUInt64 >>> (((iZ (8 * k))).toInt64.toUInt64 &&& Int64.toUInt64 63)).toInt64).toInt32).toInt8.toInt32))))))] H := hP
          have hD : va_D A [(hd, .inr (0, [.int (iZ n), .ref hy])), (hy, .inl (cB, 4096, .inl (aI (upZ K (n + k) (vp_nar .byte (((((v).toUInt64 >>> (((iZ (8 * k))).toInt64.toUInt64 &&& Int64.toUInt64 63)).toInt64).toInt32).toInt8.toInt32))))))] := hD
          refine lv_iinc (v := iZ (k + 1)) (lv' := [(4, .int (iZ (k + 1))), (0, .ref hd), (1, .int (iZ a)), (2, .long v)]) hx hb d_Dr_append_44 hl (k := 3) rfl (iZ_add _ _) (by decide) rfl (fun ls hl => ?_)
          refine lv_goto (tgt := 17) hx hb d_Dr_append_47 (by decide) ?_
          exact ih_17 (k + 1) (upZ K (n + k) (vp_nar .byte (((((v).toUInt64 >>> (((iZ (8 * k))).toInt64.toUInt64 &&& Int64.toUInt64 63)).toInt64).toInt32).toInt8.toInt32))) (by omega) (by omega) (dr_step (by omega) i1 (by omega) i3) (by omega) _ _ hP hD hS ls (lv_sub hl [1, 2, 3, 0] rfl)
    exact LP_17 _ 0 Y (by omega) (by omega) (fun j j1 j2 => by show _ = iZ (if j < n then _ else _) ∧ 0 ≤ (if j < n then _ else _) ∧ (if j < n then _ else _) ≤ 255; rw [if_pos (by omega)]; exact hY j j1 (by omega)) (Nat.lt_succ_self _) _ _ hP hD hS ls (lv_sub hl [1, 2, 3, 0] rfl)
  · refine lv_iconst (v := iZ (0)) hx hb d_Dr_append_12 rfl ?_
    exact W.zret (ty := .boolean) hx hb hr (by decide) (fun t ht hW => ⟨⟨_, ((Y, n)), rfl, ⟨by rw [decide_eq_false (by omega)]; rfl, fun q => absurd q (by omega), fun _ => ⟨rfl, rfl⟩⟩, by rw [ht]; exact hP, va_K.moved hW.alike hK, hD⟩, hS.F ht⟩) hS.2.2 d_Dr_append_13
theorem d_Fo_renew_0 : decode c_yFo_renew 0 = .ok (.aload_n 0, 1) := by decide +kernel
theorem d_Fo_renew_1 : decode c_yFo_renew 1 = .ok (.getfield 19, 3) := by decide +kernel
theorem d_Fo_renew_4 : decode c_yFo_renew 4 = .ok (.iconst 0, 1) := by decide +kernel
theorem d_Fo_renew_5 : decode c_yFo_renew 5 = .ok (.invokestatic 23, 3) := by decide +kernel
theorem d_Fo_renew_8 : decode c_yFo_renew 8 = .ok (.aload_n 0, 1) := by decide +kernel
theorem d_Fo_renew_9 : decode c_yFo_renew 9 = .ok (.iload_n 1, 1) := by decide +kernel
theorem d_Fo_renew_10 : decode c_yFo_renew 10 = .ok (.putfield 7, 3) := by decide +kernel
theorem d_Fo_renew_13 : decode c_yFo_renew 13 = .ok (.aload_n 0, 1) := by decide +kernel
theorem d_Fo_renew_14 : decode c_yFo_renew 14 = .ok (.iload_n 2, 1) := by decide +kernel
theorem d_Fo_renew_15 : decode c_yFo_renew 15 = .ok (.putfield 13, 3) := by decide +kernel
theorem d_Fo_renew_18 : decode c_yFo_renew 18 = .ok (.aload_n 0, 1) := by decide +kernel
theorem d_Fo_renew_19 : decode c_yFo_renew 19 = .ok (.iload_n 3, 1) := by decide +kernel
theorem d_Fo_renew_20 : decode c_yFo_renew 20 = .ok (.putfield 16, 3) := by decide +kernel
theorem d_Fo_renew_23 : decode c_yFo_renew 23 = .ok (.return_, 1) := by decide +kernel
set_option maxHeartbeats 4000000 in
set_option maxRecDepth 100000 in
theorem c_Font_renew (l : Launch) (dC : Nat → ClassId) (dI : Nat → Nat → Nat) (hf hrw : Nat) (cI : ClassId) (fw fh fg : Int) (X : Int → Int32) (a b g : Int) (sz : Nat)  : Met l y_Fo_renew w_Fo_renew ({ frames := 1, cells := 0, slots := 0, locals := 23 }) (va_Pc [.ref hf, .int (iZ a), .int (iZ b), .int (iZ g)] (zPm (dC, dI) vwCl [(hf, .inr (1, [.int (iZ fw), .int (iZ fh), .int (iZ fg), .ref hrw])), (hrw, .inl (cI, 8192, .inl (aI X)))] [(cI, .int)] sz)) (va_Qv (fun (u : Int → Int32) => ∀ i : Int, 0 ≤ i → i < 8192 → u i = iZ 0) (fun u => zB (dC, dI) vwCl [(cI, .int)] (va_A [(hf, .inr (1, [.int (iZ fw), .int (iZ fh), .int (iZ fg), .ref hrw])), (hrw, .inl (cI, 8192, .inl (aI X)))] sz) [(hf, .inr (1, [.int (iZ a), .int (iZ b), .int (iZ g), .ref hrw])), (hrw, .inl (cI, 8192, .inl (aI u)))]) (va_A [(hf, .inr (1, [.int (iZ fw), .int (iZ fh), .int (iZ fg), .ref hrw])), (hrw, .inl (cI, 8192, .inl (aI X)))] sz)) 0 0 (va_A [(hf, .inr (1, [.int (iZ fw), .int (iZ fh), .int (iZ fg), .ref hrw])), (hrw, .inl (cI, 8192, .inl (aI X)))] sz) := by
  refine Met.ofW (cc := c_yFo_renew) (maxL := 4) (ret := none) (by decide) rfl ?_
  intro p e s m args below meth c s₁ B hml hv
  obtain ⟨rfl, hsz, hP, hK, hD0⟩ := hv
  have hx := B.exec
  have hb := B.bytes
  have hr := B.returns
  have hts0 := atoms_spec (ws := w_Fo_renew) B.pre
  have hts : ∀ w ∈ gT, w.before _ s = true := fun w h => hts0 w (List.mem_cons_of_mem _ h)
  have hown : s.vm.findClass R_Fo = some m.cls := findClass_of_methodNamed B.named
  have hlocks := B.notSynchronized
  subst hsz
  have hD := hD0.self (sz := s.heap.size)
  generalize hAe : va_A [(hf, .inr (1, [.int (iZ fw), .int (iZ fh), .int (iZ fg), .ref hrw])), (hrw, .inl (cI, 8192, .inl (aI X)))] s.heap.size = A at hD ⊢
  have hA : ∀ q : Nat, s.heap.size ≤ q → A q := fun q h => by rw [← hAe]; exact Or.inr h
  obtain ⟨H, hH⟩ : ∃ H, s.heap = H := ⟨_, rfl⟩
  have hS : va_S A s.heap H [] := by rw [← hH]; exact va_S.rf
  rw [hH] at hP
  rw [hH]
  have hl := lv_entry ([.ref hf, .int (iZ a), .int (iZ b), .int (iZ g)]) (n := 4) (Nat.le_of_ble_eq_true rfl)
  rw [lg_entry_eq]
  generalize (lg_sl ([.ref hf, .int (iZ a), .int (iZ b), .int (iZ g)]) ++ List.replicate (4 - (lg_sl ([.ref hf, .int (iZ a), .int (iZ b), .int (iZ g)])).length) Slot.unset).toArray = ls at hl ⊢
  have hl : lv_has ls 4 [(0, .ref hf), (1, .int (iZ a)), (2, .int (iZ b)), (3, .int (iZ g))] := hl
  refine lv_aload_n hx hb d_Fo_renew_0 rfl (lv_at hl 0 rfl) ?_
  refine va_get (D := (dC, dI)) (ci := 1) (v := .ref hrw) (C := R_Fo) (T := T_Fo) (N := 4) hx hb hts wi_Fo hown hK hP 0 rfl rfl 3 (by decide) (hts _ t_115) (fun _ h9 => h9) rfl d_Fo_renew_1 ?_
  refine lv_iconst (v := iZ (0)) hx hb d_Fo_renew_4 rfl ?_
  refine zc_v (w1 := fun (u_5 : Int → Int32) => [(hrw, .inl (cI, 8192, .inl (aI u_5)))]) (wr := [(hf, .inr (1, [.int (iZ fw), .int (iZ fh), .int (iZ fg), .ref hrw]))]) (va_runS (As := [.ref hrw, .int (iZ 0)]) (rest := []) ⟨hx, hb, hml, hown, hts⟩ (c_fillI l dC dI hrw cI 8192 X (iZ 0) H.size (by first | omega | assumption)) (va_cwS 2 hts (gS t_429 t_430 t_11 t_431) rfl rfl rfl (by decide +kernel) ⟨Nat.le_of_ble_eq_true rfl, Nat.le_of_ble_eq_true rfl⟩) ⟨zPm_blind, zPm_pre hP hD hK [1] [0] rfl rfl rfl rfl⟩ rfl rfl hl.1 rfl (lv_room (Nat.le_of_ble_eq_true rfl)) d_Fo_renew_5 ⟨Nat.le_of_ble_eq_true rfl, Nat.le_of_ble_eq_true rfl⟩) hP hD hS hA [1] [0] rfl rfl rfl (by decide) (fun u_5 H locs q_5 hP hD hS => ?_)
  have hP : va_P (dC, dI) vwCl [(hf, .inr (1, [.int (iZ fw), .int (iZ fh), .int (iZ fg), .ref hrw])), (hrw, .inl (cI, 8192, .inl (aI u_5)))] H := hP
  have hD : va_D A [(hf, .inr (1, [.int (iZ fw), .int (iZ fh), .int (iZ fg), .ref hrw])), (hrw, .inl (cI, 8192, .inl (aI u_5)))] := hD
  refine lv_aload_n hx hb d_Fo_renew_8 rfl (lv_at hl 0 rfl) ?_
  refine lv_iload_n hx hb d_Fo_renew_9 rfl (lv_at hl 1 rfl) ?_
  refine va_put (D := (dC, dI)) (ci := 1) (v := .int (iZ a)) (ty := .int) (C := R_Fo) (T := T_Fo) (N := 4) hx hb hts wi_Fo ty_Fo ty_Fo_ok nd_Fo hown hK hP hD hS 0 rfl rfl 0 (by decide) (hts _ t_109) (fun _ h9 => h9) rfl (by decide +kernel) rfl rfl (Nat.le_of_ble_eq_true rfl) d_Fo_renew_10 (fun H locs hP hD hS => ?_)
  have hP : va_P (dC, dI) vwCl [(hf, .inr (1, [.int (iZ a), .int (iZ fh), .int (iZ fg), .ref hrw])), (hrw, .inl (cI, 8192, .inl (aI u_5)))] H := hP
  have hD : va_D A [(hf, .inr (1, [.int (iZ a), .int (iZ fh), .int (iZ fg), .ref hrw])), (hrw, .inl (cI, 8192, .inl (aI u_5)))] := hD
  refine lv_aload_n hx hb d_Fo_renew_13 rfl (lv_at hl 0 rfl) ?_
  refine lv_iload_n hx hb d_Fo_renew_14 rfl (lv_at hl 2 rfl) ?_
  refine va_put (D := (dC, dI)) (ci := 1) (v := .int (iZ b)) (ty := .int) (C := R_Fo) (T := T_Fo) (N := 4) hx hb hts wi_Fo ty_Fo ty_Fo_ok nd_Fo hown hK hP hD hS 0 rfl rfl 1 (by decide) (hts _ t_111) (fun _ h9 => h9) rfl (by decide +kernel) rfl rfl (Nat.le_of_ble_eq_true rfl) d_Fo_renew_15 (fun H locs hP hD hS => ?_)
  have hP : va_P (dC, dI) vwCl [(hf, .inr (1, [.int (iZ a), .int (iZ b), .int (iZ fg), .ref hrw])), (hrw, .inl (cI, 8192, .inl (aI u_5)))] H := hP
  have hD : va_D A [(hf, .inr (1, [.int (iZ a), .int (iZ b), .int (iZ fg), .ref hrw])), (hrw, .inl (cI, 8192, .inl (aI u_5)))] := hD
  refine lv_aload_n hx hb d_Fo_renew_18 rfl (lv_at hl 0 rfl) ?_
  refine lv_iload_n hx hb d_Fo_renew_19 rfl (lv_at hl 3 rfl) ?_
  refine va_put (D := (dC, dI)) (ci := 1) (v := .int (iZ g)) (ty := .int) (C := R_Fo) (T := T_Fo) (N := 4) hx hb hts wi_Fo ty_Fo ty_Fo_ok nd_Fo hown hK hP hD hS 0 rfl rfl 2 (by decide) (hts _ t_113) (fun _ h9 => h9) rfl (by decide +kernel) rfl rfl (Nat.le_of_ble_eq_true rfl) d_Fo_renew_20 (fun H locs hP hD hS => ?_)
  have hP : va_P (dC, dI) vwCl [(hf, .inr (1, [.int (iZ a), .int (iZ b), .int (iZ g), .ref hrw])), (hrw, .inl (cI, 8192, .inl (aI u_5)))] H := hP
  have hD : va_D A [(hf, .inr (1, [.int (iZ a), .int (iZ b), .int (iZ g), .ref hrw])), (hrw, .inl (cI, 8192, .inl (aI u_5)))] := hD
  exact W.vret hx hb hr (fun t ht hW => ⟨⟨u_5, rfl, q_5, by rw [ht]; exact hP, va_K.moved hW.alike hK, hD⟩, hS.F ht⟩) hS.2.2 d_Fo_renew_23
theorem d_Fo_setRow_0 : decode c_yFo_setRow 0 = .ok (.aload_n 0, 1) := by decide +kernel
theorem d_Fo_setRow_1 : decode c_yFo_setRow 1 = .ok (.getfield 19, 3) := by decide +kernel
theorem d_Fo_setRow_4 : decode c_yFo_setRow 4 = .ok (.iload_n 1, 1) := by decide +kernel
theorem d_Fo_setRow_5 : decode c_yFo_setRow 5 = .ok (.bipush 32, 2) := by decide +kernel
theorem d_Fo_setRow_7 : decode c_yFo_setRow 7 = .ok (.imul, 1) := by decide +kernel
theorem d_Fo_setRow_8 : decode c_yFo_setRow 8 = .ok (.iload_n 2, 1) := by decide +kernel
theorem d_Fo_setRow_9 : decode c_yFo_setRow 9 = .ok (.iadd, 1) := by decide +kernel
theorem d_Fo_setRow_10 : decode c_yFo_setRow 10 = .ok (.iload_n 3, 1) := by decide +kernel
theorem d_Fo_setRow_11 : decode c_yFo_setRow 11 = .ok (.iastore, 1) := by decide +kernel
theorem d_Fo_setRow_12 : decode c_yFo_setRow 12 = .ok (.return_, 1) := by decide +kernel
set_option maxHeartbeats 4000000 in
set_option maxRecDepth 100000 in
theorem c_Font_setRow (l : Launch) (dC : Nat → ClassId) (dI : Nat → Nat → Nat) (hf hrw : Nat) (cI : ClassId) (fw fh fg : Int) (X : Int → Int32) (cd r0 : Int) (bits : Int32) (sz : Nat) (c1 : 0 ≤ cd) (c2 : cd ≤ 255) (r1 : 0 ≤ r0) (r2 : r0 ≤ 31) : Met l y_Fo_setRow w_Fo_setRow ({ frames := 0, cells := 0, slots := 0, locals := 0 }) (va_Pc [.ref hf, .int (iZ cd), .int (iZ r0), .int bits] (zPm (dC, dI) vwCl [(hf, .inr (1, [.int (iZ fw), .int (iZ fh), .int (iZ fg), .ref hrw])), (hrw, .inl (cI, 8192, .inl (aI X)))] [(cI, .int)] sz)) (va_Qv (fun (u : Int → Int32) => u = upZ X (cd * 32 + r0) bits) (fun u => zB (dC, dI) vwCl [(cI, .int)] (va_A [(hf, .inr (1, [.int (iZ fw), .int (iZ fh), .int (iZ fg), .ref hrw])), (hrw, .inl (cI, 8192, .inl (aI X)))] sz) [(hf, .inr (1, [.int (iZ fw), .int (iZ fh), .int (iZ fg), .ref hrw])), (hrw, .inl (cI, 8192, .inl (aI u)))]) (va_A [(hf, .inr (1, [.int (iZ fw), .int (iZ fh), .int (iZ fg), .ref hrw])), (hrw, .inl (cI, 8192, .inl (aI X)))] sz)) 0 0 (va_A [(hf, .inr (1, [.int (iZ fw), .int (iZ fh), .int (iZ fg), .ref hrw])), (hrw, .inl (cI, 8192, .inl (aI X)))] sz) := by
  refine Met.ofW (cc := c_yFo_setRow) (maxL := 4) (ret := none) (by decide) rfl ?_
  intro p e s m args below meth c s₁ B hml hv
  obtain ⟨rfl, hsz, hP, hK, hD0⟩ := hv
  have hx := B.exec
  have hb := B.bytes
  have hr := B.returns
  have hts0 := atoms_spec (ws := w_Fo_setRow) B.pre
  have hts : ∀ w ∈ gT, w.before _ s = true := fun w h => hts0 w (List.mem_cons_of_mem _ h)
  have hown : s.vm.findClass R_Fo = some m.cls := findClass_of_methodNamed B.named
  have hlocks := B.notSynchronized
  subst hsz
  have hD := hD0.self (sz := s.heap.size)
  generalize hAe : va_A [(hf, .inr (1, [.int (iZ fw), .int (iZ fh), .int (iZ fg), .ref hrw])), (hrw, .inl (cI, 8192, .inl (aI X)))] s.heap.size = A at hD ⊢
  have hA : ∀ q : Nat, s.heap.size ≤ q → A q := fun q h => by rw [← hAe]; exact Or.inr h
  obtain ⟨H, hH⟩ : ∃ H, s.heap = H := ⟨_, rfl⟩
  have hS : va_S A s.heap H [] := by rw [← hH]; exact va_S.rf
  rw [hH] at hP
  rw [hH]
  have hl := lv_entry ([.ref hf, .int (iZ cd), .int (iZ r0), .int bits]) (n := 4) (Nat.le_of_ble_eq_true rfl)
  rw [lg_entry_eq]
  generalize (lg_sl ([.ref hf, .int (iZ cd), .int (iZ r0), .int bits]) ++ List.replicate (4 - (lg_sl ([.ref hf, .int (iZ cd), .int (iZ r0), .int bits])).length) Slot.unset).toArray = ls at hl ⊢
  have hl : lv_has ls 4 [(0, .ref hf), (1, .int (iZ cd)), (2, .int (iZ r0)), (3, .int bits)] := hl
  refine lv_aload_n hx hb d_Fo_setRow_0 rfl (lv_at hl 0 rfl) ?_
  refine va_get (D := (dC, dI)) (ci := 1) (v := .ref hrw) (C := R_Fo) (T := T_Fo) (N := 4) hx hb hts wi_Fo hown hK hP 0 rfl rfl 3 (by decide) (hts _ t_115) (fun _ h9 => h9) rfl d_Fo_setRow_1 ?_
  refine lv_iload_n hx hb d_Fo_setRow_4 rfl (lv_at hl 1 rfl) ?_
  refine lv_bipush (v := iZ (32)) hx hb d_Fo_setRow_5 (by decide) ?_
  refine zi_mul hx hb d_Fo_setRow_7 ?_
  refine lv_iload_n hx hb d_Fo_setRow_8 rfl (lv_at hl 2 rfl) ?_
  refine zi_add hx hb d_Fo_setRow_9 ?_
  refine lv_iload_n hx hb d_Fo_setRow_10 rfl (lv_at hl 3 rfl) ?_
  refine z_iast hx hb hK hP hD hS 1 0 rfl rfl (by omega) (by omega) (by omega) d_Fo_setRow_11 (fun H locs hP hD hS => ?_)
  have hP : va_P (dC, dI) vwCl [(hf, .inr (1, [.int (iZ fw), .int (iZ fh), .int (iZ fg), .ref hrw])), (hrw, .inl (cI, 8192, .inl (aI (upZ X ((cd * 32) + r0) bits))))] H := hP
  have hD : va_D A [(hf, .inr (1, [.int (iZ fw), .int (iZ fh), .int (iZ fg), .ref hrw])), (hrw, .inl (cI, 8192, .inl (aI (upZ X ((cd * 32) + r0) bits))))] := hD
  exact W.vret hx hb hr (fun t ht hW => ⟨⟨(upZ X ((cd * 32) + r0) bits), rfl, rfl, by rw [ht]; exact hP, va_K.moved hW.alike hK, hD⟩, hS.F ht⟩) hS.2.2 d_Fo_setRow_12
theorem d_Fo_isDark_0 : decode c_yFo_isDark 0 = .ok (.aload_n 0, 1) := by decide +kernel
theorem d_Fo_isDark_1 : decode c_yFo_isDark 1 = .ok (.getfield 19, 3) := by decide +kernel
theorem d_Fo_isDark_4 : decode c_yFo_isDark 4 = .ok (.iload_n 1, 1) := by decide +kernel
theorem d_Fo_isDark_5 : decode c_yFo_isDark 5 = .ok (.bipush 32, 2) := by decide +kernel
theorem d_Fo_isDark_7 : decode c_yFo_isDark 7 = .ok (.imul, 1) := by decide +kernel
theorem d_Fo_isDark_8 : decode c_yFo_isDark 8 = .ok (.iload_n 3, 1) := by decide +kernel
theorem d_Fo_isDark_9 : decode c_yFo_isDark 9 = .ok (.iadd, 1) := by decide +kernel
theorem d_Fo_isDark_10 : decode c_yFo_isDark 10 = .ok (.iaload, 1) := by decide +kernel
theorem d_Fo_isDark_11 : decode c_yFo_isDark 11 = .ok (.aload_n 0, 1) := by decide +kernel
theorem d_Fo_isDark_12 : decode c_yFo_isDark 12 = .ok (.getfield 7, 3) := by decide +kernel
theorem d_Fo_isDark_15 : decode c_yFo_isDark 15 = .ok (.iconst 1, 1) := by decide +kernel
theorem d_Fo_isDark_16 : decode c_yFo_isDark 16 = .ok (.isub, 1) := by decide +kernel
theorem d_Fo_isDark_17 : decode c_yFo_isDark 17 = .ok (.iload_n 2, 1) := by decide +kernel
theorem d_Fo_isDark_18 : decode c_yFo_isDark 18 = .ok (.isub, 1) := by decide +kernel
theorem d_Fo_isDark_19 : decode c_yFo_isDark 19 = .ok (.iushr, 1) := by decide +kernel
theorem d_Fo_isDark_20 : decode c_yFo_isDark 20 = .ok (.iconst 1, 1) := by decide +kernel
theorem d_Fo_isDark_21 : decode c_yFo_isDark 21 = .ok (.iand, 1) := by decide +kernel
theorem d_Fo_isDark_22 : decode c_yFo_isDark 22 = .ok (.ifCond .eq 7, 3) := by decide +kernel
theorem d_Fo_isDark_25 : decode c_yFo_isDark 25 = .ok (.iconst 1, 1) := by decide +kernel
theorem d_Fo_isDark_26 : decode c_yFo_isDark 26 = .ok (.goto 4, 3) := by decide +kernel
theorem d_Fo_isDark_29 : decode c_yFo_isDark 29 = .ok (.iconst 0, 1) := by decide +kernel
theorem d_Fo_isDark_30 : decode c_yFo_isDark 30 = .ok (.ireturn, 1) := by decide +kernel
set_option maxHeartbeats 4000000 in
set_option maxRecDepth 100000 in
theorem c_Font_isDark (l : Launch) (dC : Nat → ClassId) (dI : Nat → Nat → Nat) (hf hrw : Nat) (cI : ClassId) (fw fh fg : Int) (X : Int → Int32) (cd c0 r0 : Int) (c1 : 0 ≤ cd) (c2 : cd ≤ 255) (r1 : 0 ≤ r0) (r2 : r0 ≤ 31) (f1 : 1 ≤ fw) (f2 : fw ≤ 32) (d1 : 0 ≤ c0) (d2 : c0 < fw) : Met l y_Fo_isDark w_Fo_isDark ({ frames := 0, cells := 0, slots := 0, locals := 0 }) (va_Pc [.ref hf, .int (iZ cd), .int (iZ c0), .int (iZ r0)] (zPr (dC, dI) vwCl [(hf, .inr (1, [.int (iZ fw), .int (iZ fh), .int (iZ fg), .ref hrw])), (hrw, .inl (cI, 8192, .inl (aI X)))] [(cI, .int)])) (vp_Si (fun r => r = bI (fbit (X (cd * 32 + r0)) (fw - 1 - c0)))) 0 0 (fun _ => False) := by
  refine Met.ofW (cc := c_yFo_isDark) (maxL := 4) (ret := (some .boolean)) (by decide) rfl ?_
  intro p e s m args below meth c s₁ B hml hv
  obtain ⟨rfl, hP, hK⟩ := hv
  have hx := B.exec
  have hb := B.bytes
  have hr := B.returns
  have hts0 := atoms_spec (ws := w_Fo_isDark) B.pre
  have hts : ∀ w ∈ gT, w.before _ s = true := fun w h => hts0 w (List.mem_cons_of_mem _ h)
  have hown : s.vm.findClass R_Fo = some m.cls := findClass_of_methodNamed B.named
  have hlocks := B.notSynchronized
  have hl := lv_entry ([.ref hf, .int (iZ cd), .int (iZ c0), .int (iZ r0)]) (n := 4) (Nat.le_of_ble_eq_true rfl)
  rw [lg_entry_eq]
  generalize (lg_sl ([.ref hf, .int (iZ cd), .int (iZ c0), .int (iZ r0)]) ++ List.replicate (4 - (lg_sl ([.ref hf, .int (iZ cd), .int (iZ c0), .int (iZ r0)])).length) Slot.unset).toArray = ls at hl ⊢
  have hl : lv_has ls 4 [(0, .ref hf), (1, .int (iZ cd)), (2, .int (iZ c0)), (3, .int (iZ r0))] := hl
  refine lv_aload_n hx hb d_Fo_isDark_0 rfl (lv_at hl 0 rfl) ?_
  refine va_get (D := (dC, dI)) (ci := 1) (v := .ref hrw) (C := R_Fo) (T := T_Fo) (N := 4) hx hb hts wi_Fo hown hK hP 0 rfl rfl 3 (by decide) (hts _ t_115) (fun _ h9 => h9) rfl d_Fo_isDark_1 ?_
  refine lv_iload_n hx hb d_Fo_isDark_4 rfl (lv_at hl 1 rfl) ?_
  refine lv_bipush (v := iZ (32)) hx hb d_Fo_isDark_5 (by decide) ?_
  refine zi_mul hx hb d_Fo_isDark_7 ?_
  refine lv_iload_n hx hb d_Fo_isDark_8 rfl (lv_at hl 3 rfl) ?_
  refine zi_add hx hb d_Fo_isDark_9 ?_
  refine z_iald hx hb hK hP 1 0 rfl rfl (by omega) (by omega) (by omega) d_Fo_isDark_10 ?_
  refine lv_aload_n hx hb d_Fo_isDark_11 rfl (lv_at hl 0 rfl) ?_
  refine va_get (D := (dC, dI)) (ci := 1) (v := .int (iZ fw)) (C := R_Fo) (T := T_Fo) (N := 4) hx hb hts wi_Fo hown hK hP 0 rfl rfl 0 (by decide) (hts _ t_109) (fun _ h9 => h9) rfl d_Fo_isDark_12 ?_
  refine lv_iconst (v := iZ (1)) hx hb d_Fo_isDark_15 rfl ?_
  refine zi_sub hx hb d_Fo_isDark_16 ?_
  refine lv_iload_n hx hb d_Fo_isDark_17 rfl (lv_at hl 2 rfl) ?_
  refine zi_sub hx hb d_Fo_isDark_18 ?_
  refine lv_iushr hx hb d_Fo_isDark_19 rfl ?_
  refine lv_iconst (v := iZ (1)) hx hb d_Fo_isDark_20 rfl ?_
  refine lv_iand hx hb d_Fo_isDark_21 ?_
  refine lv_if_eq (tgt := 29) hx hb d_Fo_isDark_22 (by decide) (fun c_22 => ?_) (fun c_22 => ?_)
  · refine lv_iconst (v := iZ (0)) hx hb d_Fo_isDark_29 rfl ?_
    exact W.zret (ty := .boolean) hx hb hr (by decide) (fun t ht hW => ⟨_, rfl, by rw [(fb_ushr (X (cd * 32 + r0)) (by omega) (by omega)).mp c_22]; rfl, ht⟩) (fun q h => nomatch h) d_Fo_isDark_30
  · refine lv_iconst (v := iZ (1)) hx hb d_Fo_isDark_25 rfl ?_
    refine lv_goto (tgt := 30) hx hb d_Fo_isDark_26 (by decide) ?_
    exact W.zret (ty := .boolean) hx hb hr (by decide) (fun t ht hW => ⟨_, rfl, by rw [show fbit (X (cd * 32 + r0)) (fw - 1 - c0) = true from nfT (fun q => c_22 ((fb_ushr (X (cd * 32 + r0)) (by omega) (by omega)).mpr q))]; rfl, ht⟩) (fun q h => nomatch h) d_Fo_isDark_30
theorem d_St_bound_0 : decode c_ySt_bound 0 = .ok (.aload_n 0, 1) := by decide +kernel
theorem d_St_bound_1 : decode c_ySt_bound 1 = .ok (.iload_n 1, 1) := by decide +kernel
theorem d_St_bound_2 : decode c_ySt_bound 2 = .ok (.putfield 27, 3) := by decide +kernel
theorem d_St_bound_5 : decode c_ySt_bound 5 = .ok (.aload_n 0, 1) := by decide +kernel
theorem d_St_bound_6 : decode c_ySt_bound 6 = .ok (.iload_n 2, 1) := by decide +kernel
theorem d_St_bound_7 : decode c_ySt_bound 7 = .ok (.putfield 30, 3) := by decide +kernel
theorem d_St_bound_10 : decode c_ySt_bound 10 = .ok (.aload_n 0, 1) := by decide +kernel
theorem d_St_bound_11 : decode c_ySt_bound 11 = .ok (.iload_n 3, 1) := by decide +kernel
theorem d_St_bound_12 : decode c_ySt_bound 12 = .ok (.putfield 33, 3) := by decide +kernel
theorem d_St_bound_15 : decode c_ySt_bound 15 = .ok (.aload_n 0, 1) := by decide +kernel
theorem d_St_bound_16 : decode c_ySt_bound 16 = .ok (.iload 4, 2) := by decide +kernel
theorem d_St_bound_18 : decode c_ySt_bound 18 = .ok (.putfield 36, 3) := by decide +kernel
theorem d_St_bound_21 : decode c_ySt_bound 21 = .ok (.return_, 1) := by decide +kernel
set_option maxHeartbeats 4000000 in
set_option maxRecDepth 100000 in
theorem c_Steps_bound (l : Launch) (dC : Nat → ClassId) (dI : Nat → Nat → Nat) (hst hp : Nat) (x y q sl sp sr sb a1 a2 a3 a4 : Int) (sz : Nat)  : Met l y_St_bound w_St_bound ({ frames := 0, cells := 0, slots := 0, locals := 0 }) (va_Pc [.ref hst, .int (iZ a1), .int (iZ a2), .int (iZ a3), .int (iZ a4)] (zPm (dC, dI) vwCl [(hst, .inr (3, [.ref hp, .int (iZ x), .int (iZ y), .int (iZ q), .int (iZ sl), .int (iZ sp), .int (iZ sr), .int (iZ sb)]))] [] sz)) (va_Qv (fun (u : Unit) => True) (fun u => zB (dC, dI) vwCl [] (va_A [(hst, .inr (3, [.ref hp, .int (iZ x), .int (iZ y), .int (iZ q), .int (iZ sl), .int (iZ sp), .int (iZ sr), .int (iZ sb)]))] sz) [(hst, .inr (3, [.ref hp, .int (iZ x), .int (iZ y), .int (iZ q), .int (iZ a1), .int (iZ a2), .int (iZ a3), .int (iZ a4)]))]) (va_A [(hst, .inr (3, [.ref hp, .int (iZ x), .int (iZ y), .int (iZ q), .int (iZ sl), .int (iZ sp), .int (iZ sr), .int (iZ sb)]))] sz)) 0 0 (va_A [(hst, .inr (3, [.ref hp, .int (iZ x), .int (iZ y), .int (iZ q), .int (iZ sl), .int (iZ sp), .int (iZ sr), .int (iZ sb)]))] sz) := by
  refine Met.ofW (cc := c_ySt_bound) (maxL := 5) (ret := none) (by decide) rfl ?_
  intro p e s m args below meth c s₁ B hml hv
  obtain ⟨rfl, hsz, hP, hK, hD0⟩ := hv
  have hx := B.exec
  have hb := B.bytes
  have hr := B.returns
  have hts0 := atoms_spec (ws := w_St_bound) B.pre
  have hts : ∀ w ∈ gT, w.before _ s = true := fun w h => hts0 w (List.mem_cons_of_mem _ h)
  have hown : s.vm.findClass R_St = some m.cls := findClass_of_methodNamed B.named
  have hlocks := B.notSynchronized
  subst hsz
  have hD := hD0.self (sz := s.heap.size)
  generalize hAe : va_A [(hst, .inr (3, [.ref hp, .int (iZ x), .int (iZ y), .int (iZ q), .int (iZ sl), .int (iZ sp), .int (iZ sr), .int (iZ sb)]))] s.heap.size = A at hD ⊢
  have hA : ∀ q : Nat, s.heap.size ≤ q → A q := fun q h => by rw [← hAe]; exact Or.inr h
  obtain ⟨H, hH⟩ : ∃ H, s.heap = H := ⟨_, rfl⟩
  have hS : va_S A s.heap H [] := by rw [← hH]; exact va_S.rf
  rw [hH] at hP
  rw [hH]
  have hl := lv_entry ([.ref hst, .int (iZ a1), .int (iZ a2), .int (iZ a3), .int (iZ a4)]) (n := 5) (Nat.le_of_ble_eq_true rfl)
  rw [lg_entry_eq]
  generalize (lg_sl ([.ref hst, .int (iZ a1), .int (iZ a2), .int (iZ a3), .int (iZ a4)]) ++ List.replicate (5 - (lg_sl ([.ref hst, .int (iZ a1), .int (iZ a2), .int (iZ a3), .int (iZ a4)])).length) Slot.unset).toArray = ls at hl ⊢
  have hl : lv_has ls 5 [(0, .ref hst), (1, .int (iZ a1)), (2, .int (iZ a2)), (3, .int (iZ a3)), (4, .int (iZ a4))] := hl
  refine lv_aload_n hx hb d_St_bound_0 rfl (lv_at hl 0 rfl) ?_
  refine lv_iload_n hx hb d_St_bound_1 rfl (lv_at hl 1 rfl) ?_
  refine va_put (D := (dC, dI)) (ci := 3) (v := .int (iZ a1)) (ty := .int) (C := R_St) (T := T_St) (N := 8) hx hb hts wi_St ty_St ty_St_ok nd_St hown hK hP hD hS 0 rfl rfl 4 (by decide) (hts _ t_66) (fun _ h9 => h9) rfl (by decide +kernel) rfl rfl (Nat.le_of_ble_eq_true rfl) d_St_bound_2 (fun H locs hP hD hS => ?_)
  have hP : va_P (dC, dI) vwCl [(hst, .inr (3, [.ref hp, .int (iZ x), .int (iZ y), .int (iZ q), .int (iZ a1), .int (iZ sp), .int (iZ sr), .int (iZ sb)]))] H := hP
  have hD : va_D A [(hst, .inr (3, [.ref hp, .int (iZ x), .int (iZ y), .int (iZ q), .int (iZ a1), .int (iZ sp), .int (iZ sr), .int (iZ sb)]))] := hD
  refine lv_aload_n hx hb d_St_bound_5 rfl (lv_at hl 0 rfl) ?_
  refine lv_iload_n hx hb d_St_bound_6 rfl (lv_at hl 2 rfl) ?_
  refine va_put (D := (dC, dI)) (ci := 3) (v := .int (iZ a2)) (ty := .int) (C := R_St) (T := T_St) (N := 8) hx hb hts wi_St ty_St ty_St_ok nd_St hown hK hP hD hS 0 rfl rfl 5 (by decide) (hts _ t_67) (fun _ h9 => h9) rfl (by decide +kernel) rfl rfl (Nat.le_of_ble_eq_true rfl) d_St_bound_7 (fun H locs hP hD hS => ?_)
  have hP : va_P (dC, dI) vwCl [(hst, .inr (3, [.ref hp, .int (iZ x), .int (iZ y), .int (iZ q), .int (iZ a1), .int (iZ a2), .int (iZ sr), .int (iZ sb)]))] H := hP
  have hD : va_D A [(hst, .inr (3, [.ref hp, .int (iZ x), .int (iZ y), .int (iZ q), .int (iZ a1), .int (iZ a2), .int (iZ sr), .int (iZ sb)]))] := hD
  refine lv_aload_n hx hb d_St_bound_10 rfl (lv_at hl 0 rfl) ?_
  refine lv_iload_n hx hb d_St_bound_11 rfl (lv_at hl 3 rfl) ?_
  refine va_put (D := (dC, dI)) (ci := 3) (v := .int (iZ a3)) (ty := .int) (C := R_St) (T := T_St) (N := 8) hx hb hts wi_St ty_St ty_St_ok nd_St hown hK hP hD hS 0 rfl rfl 6 (by decide) (hts _ t_68) (fun _ h9 => h9) rfl (by decide +kernel) rfl rfl (Nat.le_of_ble_eq_true rfl) d_St_bound_12 (fun H locs hP hD hS => ?_)
  have hP : va_P (dC, dI) vwCl [(hst, .inr (3, [.ref hp, .int (iZ x), .int (iZ y), .int (iZ q), .int (iZ a1), .int (iZ a2), .int (iZ a3), .int (iZ sb)]))] H := hP
  have hD : va_D A [(hst, .inr (3, [.ref hp, .int (iZ x), .int (iZ y), .int (iZ q), .int (iZ a1), .int (iZ a2), .int (iZ a3), .int (iZ sb)]))] := hD
  refine lv_aload_n hx hb d_St_bound_15 rfl (lv_at hl 0 rfl) ?_
  refine lv_iload hx hb d_St_bound_16 (lv_at hl 4 rfl) ?_
  refine va_put (D := (dC, dI)) (ci := 3) (v := .int (iZ a4)) (ty := .int) (C := R_St) (T := T_St) (N := 8) hx hb hts wi_St ty_St ty_St_ok nd_St hown hK hP hD hS 0 rfl rfl 7 (by decide) (hts _ t_69) (fun _ h9 => h9) rfl (by decide +kernel) rfl rfl (Nat.le_of_ble_eq_true rfl) d_St_bound_18 (fun H locs hP hD hS => ?_)
  have hP : va_P (dC, dI) vwCl [(hst, .inr (3, [.ref hp, .int (iZ x), .int (iZ y), .int (iZ q), .int (iZ a1), .int (iZ a2), .int (iZ a3), .int (iZ a4)]))] H := hP
  have hD : va_D A [(hst, .inr (3, [.ref hp, .int (iZ x), .int (iZ y), .int (iZ q), .int (iZ a1), .int (iZ a2), .int (iZ a3), .int (iZ a4)]))] := hD
  exact W.vret hx hb hr (fun t ht hW => ⟨⟨(()), rfl, trivial, by rw [ht]; exact hP, va_K.moved hW.alike hK, hD⟩, hS.F ht⟩) hS.2.2 d_St_bound_21
theorem d_St_startAt_0 : decode c_ySt_startAt 0 = .ok (.aload_n 0, 1) := by decide +kernel
theorem d_St_startAt_1 : decode c_ySt_startAt 1 = .ok (.iload_n 1, 1) := by decide +kernel
theorem d_St_startAt_2 : decode c_ySt_startAt 2 = .ok (.putfield 13, 3) := by decide +kernel
theorem d_St_startAt_5 : decode c_ySt_startAt 5 = .ok (.aload_n 0, 1) := by decide +kernel
theorem d_St_startAt_6 : decode c_ySt_startAt 6 = .ok (.iload_n 2, 1) := by decide +kernel
theorem d_St_startAt_7 : decode c_ySt_startAt 7 = .ok (.putfield 17, 3) := by decide +kernel
theorem d_St_startAt_10 : decode c_ySt_startAt 10 = .ok (.aload_n 0, 1) := by decide +kernel
theorem d_St_startAt_11 : decode c_ySt_startAt 11 = .ok (.iload_n 3, 1) := by decide +kernel
theorem d_St_startAt_12 : decode c_ySt_startAt 12 = .ok (.putfield 20, 3) := by decide +kernel
theorem d_St_startAt_15 : decode c_ySt_startAt 15 = .ok (.return_, 1) := by decide +kernel
set_option maxHeartbeats 4000000 in
set_option maxRecDepth 100000 in
theorem c_Steps_startAt (l : Launch) (dC : Nat → ClassId) (dI : Nat → Nat → Nat) (hst hp : Nat) (x y q sl sp sr sb a1 a2 a3 : Int) (sz : Nat)  : Met l y_St_startAt w_St_startAt ({ frames := 0, cells := 0, slots := 0, locals := 0 }) (va_Pc [.ref hst, .int (iZ a1), .int (iZ a2), .int (iZ a3)] (zPm (dC, dI) vwCl [(hst, .inr (3, [.ref hp, .int (iZ x), .int (iZ y), .int (iZ q), .int (iZ sl), .int (iZ sp), .int (iZ sr), .int (iZ sb)]))] [] sz)) (va_Qv (fun (u : Unit) => True) (fun u => zB (dC, dI) vwCl [] (va_A [(hst, .inr (3, [.ref hp, .int (iZ x), .int (iZ y), .int (iZ q), .int (iZ sl), .int (iZ sp), .int (iZ sr), .int (iZ sb)]))] sz) [(hst, .inr (3, [.ref hp, .int (iZ a1), .int (iZ a2), .int (iZ a3), .int (iZ sl), .int (iZ sp), .int (iZ sr), .int (iZ sb)]))]) (va_A [(hst, .inr (3, [.ref hp, .int (iZ x), .int (iZ y), .int (iZ q), .int (iZ sl), .int (iZ sp), .int (iZ sr), .int (iZ sb)]))] sz)) 0 0 (va_A [(hst, .inr (3, [.ref hp, .int (iZ x), .int (iZ y), .int (iZ q), .int (iZ sl), .int (iZ sp), .int (iZ sr), .int (iZ sb)]))] sz) := by
  refine Met.ofW (cc := c_ySt_startAt) (maxL := 4) (ret := none) (by decide) rfl ?_
  intro p e s m args below meth c s₁ B hml hv
  obtain ⟨rfl, hsz, hP, hK, hD0⟩ := hv
  have hx := B.exec
  have hb := B.bytes
  have hr := B.returns
  have hts0 := atoms_spec (ws := w_St_startAt) B.pre
  have hts : ∀ w ∈ gT, w.before _ s = true := fun w h => hts0 w (List.mem_cons_of_mem _ h)
  have hown : s.vm.findClass R_St = some m.cls := findClass_of_methodNamed B.named
  have hlocks := B.notSynchronized
  subst hsz
  have hD := hD0.self (sz := s.heap.size)
  generalize hAe : va_A [(hst, .inr (3, [.ref hp, .int (iZ x), .int (iZ y), .int (iZ q), .int (iZ sl), .int (iZ sp), .int (iZ sr), .int (iZ sb)]))] s.heap.size = A at hD ⊢
  have hA : ∀ q : Nat, s.heap.size ≤ q → A q := fun q h => by rw [← hAe]; exact Or.inr h
  obtain ⟨H, hH⟩ : ∃ H, s.heap = H := ⟨_, rfl⟩
  have hS : va_S A s.heap H [] := by rw [← hH]; exact va_S.rf
  rw [hH] at hP
  rw [hH]
  have hl := lv_entry ([.ref hst, .int (iZ a1), .int (iZ a2), .int (iZ a3)]) (n := 4) (Nat.le_of_ble_eq_true rfl)
  rw [lg_entry_eq]
  generalize (lg_sl ([.ref hst, .int (iZ a1), .int (iZ a2), .int (iZ a3)]) ++ List.replicate (4 - (lg_sl ([.ref hst, .int (iZ a1), .int (iZ a2), .int (iZ a3)])).length) Slot.unset).toArray = ls at hl ⊢
  have hl : lv_has ls 4 [(0, .ref hst), (1, .int (iZ a1)), (2, .int (iZ a2)), (3, .int (iZ a3))] := hl
  refine lv_aload_n hx hb d_St_startAt_0 rfl (lv_at hl 0 rfl) ?_
  refine lv_iload_n hx hb d_St_startAt_1 rfl (lv_at hl 1 rfl) ?_
  refine va_put (D := (dC, dI)) (ci := 3) (v := .int (iZ a1)) (ty := .int) (C := R_St) (T := T_St) (N := 8) hx hb hts wi_St ty_St ty_St_ok nd_St hown hK hP hD hS 0 rfl rfl 1 (by decide) (hts _ t_63) (fun _ h9 => h9) rfl (by decide +kernel) rfl rfl (Nat.le_of_ble_eq_true rfl) d_St_startAt_2 (fun H locs hP hD hS => ?_)
  have hP : va_P (dC, dI) vwCl [(hst, .inr (3, [.ref hp, .int (iZ a1), .int (iZ y), .int (iZ q), .int (iZ sl), .int (iZ sp), .int (iZ sr), .int (iZ sb)]))] H := hP
  have hD : va_D A [(hst, .inr (3, [.ref hp, .int (iZ a1), .int (iZ y), .int (iZ q), .int (iZ sl), .int (iZ sp), .int (iZ sr), .int (iZ sb)]))] := hD
  refine lv_aload_n hx hb d_St_startAt_5 rfl (lv_at hl 0 rfl) ?_
  refine lv_iload_n hx hb d_St_startAt_6 rfl (lv_at hl 2 rfl) ?_
  refine va_put (D := (dC, dI)) (ci := 3) (v := .int (iZ a2)) (ty := .int) (C := R_St) (T := T_St) (N := 8) hx hb hts wi_St ty_St ty_St_ok nd_St hown hK hP hD hS 0 rfl rfl 2 (by decide) (hts _ t_64) (fun _ h9 => h9) rfl (by decide +kernel) rfl rfl (Nat.le_of_ble_eq_true rfl) d_St_startAt_7 (fun H locs hP hD hS => ?_)
  have hP : va_P (dC, dI) vwCl [(hst, .inr (3, [.ref hp, .int (iZ a1), .int (iZ a2), .int (iZ q), .int (iZ sl), .int (iZ sp), .int (iZ sr), .int (iZ sb)]))] H := hP
  have hD : va_D A [(hst, .inr (3, [.ref hp, .int (iZ a1), .int (iZ a2), .int (iZ q), .int (iZ sl), .int (iZ sp), .int (iZ sr), .int (iZ sb)]))] := hD
  refine lv_aload_n hx hb d_St_startAt_10 rfl (lv_at hl 0 rfl) ?_
  refine lv_iload_n hx hb d_St_startAt_11 rfl (lv_at hl 3 rfl) ?_
  refine va_put (D := (dC, dI)) (ci := 3) (v := .int (iZ a3)) (ty := .int) (C := R_St) (T := T_St) (N := 8) hx hb hts wi_St ty_St ty_St_ok nd_St hown hK hP hD hS 0 rfl rfl 3 (by decide) (hts _ t_65) (fun _ h9 => h9) rfl (by decide +kernel) rfl rfl (Nat.le_of_ble_eq_true rfl) d_St_startAt_12 (fun H locs hP hD hS => ?_)
  have hP : va_P (dC, dI) vwCl [(hst, .inr (3, [.ref hp, .int (iZ a1), .int (iZ a2), .int (iZ a3), .int (iZ sl), .int (iZ sp), .int (iZ sr), .int (iZ sb)]))] H := hP
  have hD : va_D A [(hst, .inr (3, [.ref hp, .int (iZ a1), .int (iZ a2), .int (iZ a3), .int (iZ sl), .int (iZ sp), .int (iZ sr), .int (iZ sb)]))] := hD
  exact W.vret hx hb hr (fun t ht hW => ⟨⟨(()), rfl, trivial, by rw [ht]; exact hP, va_K.moved hW.alike hK, hD⟩, hS.F ht⟩) hS.2.2 d_St_startAt_15
theorem d_St_place_0 : decode c_ySt_place 0 = .ok (.aload_n 0, 1) := by decide +kernel
theorem d_St_place_1 : decode c_ySt_place 1 = .ok (.getfield 20, 3) := by decide +kernel
theorem d_St_place_4 : decode c_ySt_place 4 = .ok (.tableswitch 124 0 2 #[28, 60, 92], 28) := by decide +kernel
theorem d_St_place_32 : decode c_ySt_place 32 = .ok (.aload_n 0, 1) := by decide +kernel
theorem d_St_place_33 : decode c_ySt_place 33 = .ok (.aload_n 0, 1) := by decide +kernel
theorem d_St_place_34 : decode c_ySt_place 34 = .ok (.getfield 13, 3) := by decide +kernel
theorem d_St_place_37 : decode c_ySt_place 37 = .ok (.iload_n 1, 1) := by decide +kernel
theorem d_St_place_38 : decode c_ySt_place 38 = .ok (.iadd, 1) := by decide +kernel
theorem d_St_place_39 : decode c_ySt_place 39 = .ok (.aload_n 0, 1) := by decide +kernel
theorem d_St_place_40 : decode c_ySt_place 40 = .ok (.getfield 17, 3) := by decide +kernel
theorem d_St_place_43 : decode c_ySt_place 43 = .ok (.iload_n 2, 1) := by decide +kernel
theorem d_St_place_44 : decode c_ySt_place 44 = .ok (.iadd, 1) := by decide +kernel
theorem d_St_place_45 : decode c_ySt_place 45 = .ok (.aload_n 0, 1) := by decide +kernel
theorem d_St_place_46 : decode c_ySt_place 46 = .ok (.getfield 13, 3) := by decide +kernel
theorem d_St_place_49 : decode c_ySt_place 49 = .ok (.iload_n 3, 1) := by decide +kernel
theorem d_St_place_50 : decode c_ySt_place 50 = .ok (.iadd, 1) := by decide +kernel
theorem d_St_place_51 : decode c_ySt_place 51 = .ok (.aload_n 0, 1) := by decide +kernel
theorem d_St_place_52 : decode c_ySt_place 52 = .ok (.getfield 17, 3) := by decide +kernel
theorem d_St_place_55 : decode c_ySt_place 55 = .ok (.iload 4, 2) := by decide +kernel
theorem d_St_place_57 : decode c_ySt_place 57 = .ok (.iadd, 1) := by decide +kernel
theorem d_St_place_58 : decode c_ySt_place 58 = .ok (.invokevirtual 49, 3) := by decide +kernel
theorem d_St_place_61 : decode c_ySt_place 61 = .ok (.goto 96, 3) := by decide +kernel
theorem d_St_place_64 : decode c_ySt_place 64 = .ok (.aload_n 0, 1) := by decide +kernel
theorem d_St_place_65 : decode c_ySt_place 65 = .ok (.aload_n 0, 1) := by decide +kernel
theorem d_St_place_66 : decode c_ySt_place 66 = .ok (.getfield 13, 3) := by decide +kernel
theorem d_St_place_69 : decode c_ySt_place 69 = .ok (.iload 4, 2) := by decide +kernel
theorem d_St_place_71 : decode c_ySt_place 71 = .ok (.isub, 1) := by decide +kernel
theorem d_St_place_72 : decode c_ySt_place 72 = .ok (.aload_n 0, 1) := by decide +kernel
theorem d_St_place_73 : decode c_ySt_place 73 = .ok (.getfield 17, 3) := by decide +kernel
theorem d_St_place_76 : decode c_ySt_place 76 = .ok (.iload_n 1, 1) := by decide +kernel
theorem d_St_place_77 : decode c_ySt_place 77 = .ok (.iadd, 1) := by decide +kernel
theorem d_St_place_78 : decode c_ySt_place 78 = .ok (.aload_n 0, 1) := by decide +kernel
theorem d_St_place_79 : decode c_ySt_place 79 = .ok (.getfield 13, 3) := by decide +kernel
theorem d_St_place_82 : decode c_ySt_place 82 = .ok (.iload_n 2, 1) := by decide +kernel
theorem d_St_place_83 : decode c_ySt_place 83 = .ok (.isub, 1) := by decide +kernel
theorem d_St_place_84 : decode c_ySt_place 84 = .ok (.aload_n 0, 1) := by decide +kernel
theorem d_St_place_85 : decode c_ySt_place 85 = .ok (.getfield 17, 3) := by decide +kernel
theorem d_St_place_88 : decode c_ySt_place 88 = .ok (.iload_n 3, 1) := by decide +kernel
theorem d_St_place_89 : decode c_ySt_place 89 = .ok (.iadd, 1) := by decide +kernel
theorem d_St_place_90 : decode c_ySt_place 90 = .ok (.invokevirtual 49, 3) := by decide +kernel
theorem d_St_place_93 : decode c_ySt_place 93 = .ok (.goto 64, 3) := by decide +kernel
theorem d_St_place_96 : decode c_ySt_place 96 = .ok (.aload_n 0, 1) := by decide +kernel
theorem d_St_place_97 : decode c_ySt_place 97 = .ok (.aload_n 0, 1) := by decide +kernel
theorem d_St_place_98 : decode c_ySt_place 98 = .ok (.getfield 13, 3) := by decide +kernel
theorem d_St_place_101 : decode c_ySt_place 101 = .ok (.iload_n 3, 1) := by decide +kernel
theorem d_St_place_102 : decode c_ySt_place 102 = .ok (.isub, 1) := by decide +kernel
theorem d_St_place_103 : decode c_ySt_place 103 = .ok (.aload_n 0, 1) := by decide +kernel
theorem d_St_place_104 : decode c_ySt_place 104 = .ok (.getfield 17, 3) := by decide +kernel
theorem d_St_place_107 : decode c_ySt_place 107 = .ok (.iload 4, 2) := by decide +kernel
theorem d_St_place_109 : decode c_ySt_place 109 = .ok (.isub, 1) := by decide +kernel
theorem d_St_place_110 : decode c_ySt_place 110 = .ok (.aload_n 0, 1) := by decide +kernel
theorem d_St_place_111 : decode c_ySt_place 111 = .ok (.getfield 13, 3) := by decide +kernel
theorem d_St_place_114 : decode c_ySt_place 114 = .ok (.iload_n 1, 1) := by decide +kernel
theorem d_St_place_115 : decode c_ySt_place 115 = .ok (.isub, 1) := by decide +kernel
theorem d_St_place_116 : decode c_ySt_place 116 = .ok (.aload_n 0, 1) := by decide +kernel
theorem d_St_place_117 : decode c_ySt_place 117 = .ok (.getfield 17, 3) := by decide +kernel
theorem d_St_place_120 : decode c_ySt_place 120 = .ok (.iload_n 2, 1) := by decide +kernel
theorem d_St_place_121 : decode c_ySt_place 121 = .ok (.isub, 1) := by decide +kernel
theorem d_St_place_122 : decode c_ySt_place 122 = .ok (.invokevirtual 49, 3) := by decide +kernel
theorem d_St_place_125 : decode c_ySt_place 125 = .ok (.goto 32, 3) := by decide +kernel
theorem d_St_place_128 : decode c_ySt_place 128 = .ok (.aload_n 0, 1) := by decide +kernel
theorem d_St_place_129 : decode c_ySt_place 129 = .ok (.aload_n 0, 1) := by decide +kernel
theorem d_St_place_130 : decode c_ySt_place 130 = .ok (.getfield 13, 3) := by decide +kernel
theorem d_St_place_133 : decode c_ySt_place 133 = .ok (.iload_n 2, 1) := by decide +kernel
theorem d_St_place_134 : decode c_ySt_place 134 = .ok (.iadd, 1) := by decide +kernel
theorem d_St_place_135 : decode c_ySt_place 135 = .ok (.aload_n 0, 1) := by decide +kernel
theorem d_St_place_136 : decode c_ySt_place 136 = .ok (.getfield 17, 3) := by decide +kernel
theorem d_St_place_139 : decode c_ySt_place 139 = .ok (.iload_n 3, 1) := by decide +kernel
theorem d_St_place_140 : decode c_ySt_place 140 = .ok (.isub, 1) := by decide +kernel
theorem d_St_place_141 : decode c_ySt_place 141 = .ok (.aload_n 0, 1) := by decide +kernel
theorem d_St_place_142 : decode c_ySt_place 142 = .ok (.getfield 13, 3) := by decide +kernel
theorem d_St_place_145 : decode c_ySt_place 145 = .ok (.iload 4, 2) := by decide +kernel
theorem d_St_place_147 : decode c_ySt_place 147 = .ok (.iadd, 1) := by decide +kernel
theorem d_St_place_148 : decode c_ySt_place 148 = .ok (.aload_n 0, 1) := by decide +kernel
theorem d_St_place_149 : decode c_ySt_place 149 = .ok (.getfield 17, 3) := by decide +kernel
theorem d_St_place_152 : decode c_ySt_place 152 = .ok (.iload_n 1, 1) := by decide +kernel
theorem d_St_place_153 : decode c_ySt_place 153 = .ok (.isub, 1) := by decide +kernel
theorem d_St_place_154 : decode c_ySt_place 154 = .ok (.invokevirtual 49, 3) := by decide +kernel
theorem d_St_place_157 : decode c_ySt_place 157 = .ok (.return_, 1) := by decide +kernel
set_option maxHeartbeats 4000000 in
set_option maxRecDepth 100000 in
theorem c_Steps_place (l : Launch) (dC : Nat → ClassId) (dI : Nat → Nat → Nat) (hst hp : Nat) (x y q sl sp sr sb i j li lj : Int) (sz : Nat) (q1 : 0 ≤ q) (q2 : q ≤ 3) (x1 : -4096 ≤ x) (x2 : x ≤ 4096) (y1 : -4096 ≤ y) (y2 : y ≤ 4096) (i1 : -67108864 ≤ i) (j1 : -67108864 ≤ j) (li1 : -67108864 ≤ li) (lj1 : -67108864 ≤ lj) (i2 : i ≤ 67108864) (j2 : j ≤ 67108864) (li2 : li ≤ 67108864) (lj2 : lj ≤ 67108864) : Met l y_St_place w_St_place ({ frames := 1, cells := 0, slots := 0, locals := 24 }) (va_Pc [.ref hst, .int (iZ i), .int (iZ j), .int (iZ li), .int (iZ lj)] (zPm (dC, dI) vwCl [(hst, .inr (3, [.ref hp, .int (iZ x), .int (iZ y), .int (iZ q), .int (iZ sl), .int (iZ sp), .int (iZ sr), .int (iZ sb)]))] [] sz)) (va_Qv (fun (u : Int × Int × Int × Int) => (∀ px py : Int, (u.1 ≤ px ∧ px ≤ u.2.2.1 ∧ u.2.1 ≤ py ∧ py ≤ u.2.2.2) ↔ (i ≤ alg q x y px py ∧ alg q x y px py ≤ li ∧ j ≤ acr q x y px py ∧ acr q x y px py ≤ lj)) ∧ -134217728 ≤ u.1 ∧ u.1 ≤ 134217728 ∧ -134217728 ≤ u.2.1 ∧ u.2.1 ≤ 134217728 ∧ -134217728 ≤ u.2.2.1 ∧ u.2.2.1 ≤ 134217728 ∧ -134217728 ≤ u.2.2.2 ∧ u.2.2.2 ≤ 134217728) (fun u => zB (dC, dI) vwCl [] (va_A [(hst, .inr (3, [.ref hp, .int (iZ x), .int (iZ y), .int (iZ q), .int (iZ sl), .int (iZ sp), .int (iZ sr), .int (iZ sb)]))] sz) [(hst, .inr (3, [.ref hp, .int (iZ x), .int (iZ y), .int (iZ q), .int (iZ u.1), .int (iZ u.2.1), .int (iZ u.2.2.1), .int (iZ u.2.2.2)]))]) (va_A [(hst, .inr (3, [.ref hp, .int (iZ x), .int (iZ y), .int (iZ q), .int (iZ sl), .int (iZ sp), .int (iZ sr), .int (iZ sb)]))] sz)) 0 0 (va_A [(hst, .inr (3, [.ref hp, .int (iZ x), .int (iZ y), .int (iZ q), .int (iZ sl), .int (iZ sp), .int (iZ sr), .int (iZ sb)]))] sz) := by
  refine Met.ofW (cc := c_ySt_place) (maxL := 5) (ret := none) (by decide) rfl ?_
  intro p e s m args below meth c s₁ B hml hv
  obtain ⟨rfl, hsz, hP, hK, hD0⟩ := hv
  have hx := B.exec
  have hb := B.bytes
  have hr := B.returns
  have hts0 := atoms_spec (ws := w_St_place) B.pre
  have hts : ∀ w ∈ gT, w.before _ s = true := fun w h => hts0 w (List.mem_cons_of_mem _ h)
  have hown : s.vm.findClass R_St = some m.cls := findClass_of_methodNamed B.named
  have hlocks := B.notSynchronized
  subst hsz
  have hD := hD0.self (sz := s.heap.size)
  generalize hAe : va_A [(hst, .inr (3, [.ref hp, .int (iZ x), .int (iZ y), .int (iZ q), .int (iZ sl), .int (iZ sp), .int (iZ sr), .int (iZ sb)]))] s.heap.size = A at hD ⊢
  have hA : ∀ q : Nat, s.heap.size ≤ q → A q := fun q h => by rw [← hAe]; exact Or.inr h
  obtain ⟨H, hH⟩ : ∃ H, s.heap = H := ⟨_, rfl⟩
  have hS : va_S A s.heap H [] := by rw [← hH]; exact va_S.rf
  rw [hH] at hP
  rw [hH]
  have hl := lv_entry ([.ref hst, .int (iZ i), .int (iZ j), .int (iZ li), .int (iZ lj)]) (n := 5) (Nat.le_of_ble_eq_true rfl)
  rw [lg_entry_eq]
  generalize (lg_sl ([.ref hst, .int (iZ i), .int (iZ j), .int (iZ li), .int (iZ lj)]) ++ List.replicate (5 - (lg_sl ([.ref hst, .int (iZ i), .int (iZ j), .int (iZ li), .int (iZ lj)])).length) Slot.unset).toArray = ls at hl ⊢
  have hl : lv_has ls 5 [(0, .ref hst), (1, .int (iZ i)), (2, .int (iZ j)), (3, .int (iZ li)), (4, .int (iZ lj))] := hl
  refine lv_aload_n hx hb d_St_place_0 rfl (lv_at hl 0 rfl) ?_
  refine va_get (D := (dC, dI)) (ci := 3) (v := .int (iZ q)) (C := R_St) (T := T_St) (N := 8) hx hb hts wi_St hown hK hP 0 rfl rfl 3 (by decide) (hts _ t_65) (fun _ h9 => h9) rfl d_St_place_1 ?_
  by_cases s_4 : q = 0
  · refine zt_in (tgt := 32) (k := 0) hx hb d_St_place_4 s_4 (by decide) (by decide) (by decide) (by decide) rfl (by decide) ?_
    refine lv_aload_n hx hb d_St_place_32 rfl (lv_at hl 0 rfl) ?_
    refine lv_aload_n hx hb d_St_place_33 rfl (lv_at hl 0 rfl) ?_
    refine va_get (D := (dC, dI)) (ci := 3) (v := .int (iZ x)) (C := R_St) (T := T_St) (N := 8) hx hb hts wi_St hown hK hP 0 rfl rfl 1 (by decide) (hts _ t_63) (fun _ h9 => h9) rfl d_St_place_34 ?_
    refine lv_iload_n hx hb d_St_place_37 rfl (lv_at hl 1 rfl) ?_
    refine zi_add hx hb d_St_place_38 ?_
    refine lv_aload_n hx hb d_St_place_39 rfl (lv_at hl 0 rfl) ?_
    refine va_get (D := (dC, dI)) (ci := 3) (v := .int (iZ y)) (C := R_St) (T := T_St) (N := 8) hx hb hts wi_St hown hK hP 0 rfl rfl 2 (by decide) (hts _ t_64) (fun _ h9 => h9) rfl d_St_place_40 ?_
    refine lv_iload_n hx hb d_St_place_43 rfl (lv_at hl 2 rfl) ?_
    refine zi_add hx hb d_St_place_44 ?_
    refine lv_aload_n hx hb d_St_place_45 rfl (lv_at hl 0 rfl) ?_
    refine va_get (D := (dC, dI)) (ci := 3) (v := .int (iZ x)) (C := R_St) (T := T_St) (N := 8) hx hb hts wi_St hown hK hP 0 rfl rfl 1 (by decide) (hts _ t_63) (fun _ h9 => h9) rfl d_St_place_46 ?_
    refine lv_iload_n hx hb d_St_place_49 rfl (lv_at hl 3 rfl) ?_
    refine zi_add hx hb d_St_place_50 ?_
    refine lv_aload_n hx hb d_St_place_51 rfl (lv_at hl 0 rfl) ?_
    refine va_get (D := (dC, dI)) (ci := 3) (v := .int (iZ y)) (C := R_St) (T := T_St) (N := 8) hx hb hts wi_St hown hK hP 0 rfl rfl 2 (by decide) (hts _ t_64) (fun _ h9 => h9) rfl d_St_place_52 ?_
    refine lv_iload hx hb d_St_place_55 (lv_at hl 4 rfl) ?_
    refine zi_add hx hb d_St_place_57 ?_
    refine zc_v (w1 := fun (u_58 : Unit) => [(hst, .inr (3, [.ref hp, .int (iZ x), .int (iZ y), .int (iZ q), .int (iZ ((x + i))), .int (iZ ((y + j))), .int (iZ ((x + li))), .int (iZ ((y + lj)))]))]) (wr := []) (va_runV (As := [.int (iZ (x + i)), .int (iZ (y + j)), .int (iZ (x + li)), .int (iZ (y + lj))]) (rest := []) ⟨hx, hb, hml, hown, hts⟩ (c_Steps_bound l dC dI hst hp x y q sl sp sr sb (x + i) (y + j) (x + li) (y + lj) H.size ) (cwV 4 hts (gV t_485 t_487 s_7 t_3 t_488) rfl rfl rfl (by decide +kernel) ⟨Nat.le_of_ble_eq_true rfl, Nat.le_of_ble_eq_true rfl⟩) ⟨zPm_blind, va_recv hK hP (ci := 3) (q0 := 0) rfl rfl, zPm_pre hP hD hK [0] [] rfl rfl rfl rfl⟩ rfl rfl hl.1 rfl (lv_room (Nat.le_of_ble_eq_true rfl)) d_St_place_58 ⟨Nat.le_of_ble_eq_true rfl, Nat.le_of_ble_eq_true rfl⟩) hP hD hS hA [0] [] rfl rfl rfl (by decide) (fun u_58 H locs q_58 hP hD hS => ?_)
    have hP : va_P (dC, dI) vwCl [(hst, .inr (3, [.ref hp, .int (iZ x), .int (iZ y), .int (iZ q), .int (iZ ((x + i))), .int (iZ ((y + j))), .int (iZ ((x + li))), .int (iZ ((y + lj)))]))] H := hP
    have hD : va_D A [(hst, .inr (3, [.ref hp, .int (iZ x), .int (iZ y), .int (iZ q), .int (iZ ((x + i))), .int (iZ ((y + j))), .int (iZ ((x + li))), .int (iZ ((y + lj)))]))] := hD
    refine lv_goto (tgt := 157) hx hb d_St_place_61 (by decide) ?_
    exact W.vret hx hb hr (fun t ht hW => ⟨⟨(((x + i), (y + j), (x + li), (y + lj))), rfl, by refine ⟨fun px py => ?_, ?_, ?_, ?_, ?_, ?_, ?_, ?_, ?_⟩ <;> dsimp only [alg, acr] <;> omega, by rw [ht]; exact hP, va_K.moved hW.alike hK, hD⟩, hS.F ht⟩) hS.2.2 d_St_place_157
  have s_4_0 := s_4
  by_cases s_4 : q = 1
  · refine zt_in (tgt := 64) (k := 1) hx hb d_St_place_4 s_4 (by decide) (by decide) (by decide) (by decide) rfl (by decide) ?_
    refine lv_aload_n hx hb d_St_place_64 rfl (lv_at hl 0 rfl) ?_
    refine lv_aload_n hx hb d_St_place_65 rfl (lv_at hl 0 rfl) ?_
    refine va_get (D := (dC, dI)) (ci := 3) (v := .int (iZ x)) (C := R_St) (T := T_St) (N := 8) hx hb hts wi_St hown hK hP 0 rfl rfl 1 (by decide) (hts _ t_63) (fun _ h9 => h9) rfl d_St_place_66 ?_
    refine lv_iload hx hb d_St_place_69 (lv_at hl 4 rfl) ?_
    refine zi_sub hx hb d_St_place_71 ?_
    refine lv_aload_n hx hb d_St_place_72 rfl (lv_at hl 0 rfl) ?_
    refine va_get (D := (dC, dI)) (ci := 3) (v := .int (iZ y)) (C := R_St) (T := T_St) (N := 8) hx hb hts wi_St hown hK hP 0 rfl rfl 2 (by decide) (hts _ t_64) (fun _ h9 => h9) rfl d_St_place_73 ?_
    refine lv_iload_n hx hb d_St_place_76 rfl (lv_at hl 1 rfl) ?_
    refine zi_add hx hb d_St_place_77 ?_
    refine lv_aload_n hx hb d_St_place_78 rfl (lv_at hl 0 rfl) ?_
    refine va_get (D := (dC, dI)) (ci := 3) (v := .int (iZ x)) (C := R_St) (T := T_St) (N := 8) hx hb hts wi_St hown hK hP 0 rfl rfl 1 (by decide) (hts _ t_63) (fun _ h9 => h9) rfl d_St_place_79 ?_
    refine lv_iload_n hx hb d_St_place_82 rfl (lv_at hl 2 rfl) ?_
    refine zi_sub hx hb d_St_place_83 ?_
    refine lv_aload_n hx hb d_St_place_84 rfl (lv_at hl 0 rfl) ?_
    refine va_get (D := (dC, dI)) (ci := 3) (v := .int (iZ y)) (C := R_St) (T := T_St) (N := 8) hx hb hts wi_St hown hK hP 0 rfl rfl 2 (by decide) (hts _ t_64) (fun _ h9 => h9) rfl d_St_place_85 ?_
    refine lv_iload_n hx hb d_St_place_88 rfl (lv_at hl 3 rfl) ?_
    refine zi_add hx hb d_St_place_89 ?_
    refine zc_v (w1 := fun (u_90 : Unit) => [(hst, .inr (3, [.ref hp, .int (iZ x), .int (iZ y), .int (iZ q), .int (iZ ((x - lj))), .int (iZ ((y + i))), .int (iZ ((x - j))), .int (iZ ((y + li)))]))]) (wr := []) (va_runV (As := [.int (iZ (x - lj)), .int (iZ (y + i)), .int (iZ (x - j)), .int (iZ (y + li))]) (rest := []) ⟨hx, hb, hml, hown, hts⟩ (c_Steps_bound l dC dI hst hp x y q sl sp sr sb (x - lj) (y + i) (x - j) (y + li) H.size ) (cwV 4 hts (gV t_485 t_487 s_7 t_3 t_488) rfl rfl rfl (by decide +kernel) ⟨Nat.le_of_ble_eq_true rfl, Nat.le_of_ble_eq_true rfl⟩) ⟨zPm_blind, va_recv hK hP (ci := 3) (q0 := 0) rfl rfl, zPm_pre hP hD hK [0] [] rfl rfl rfl rfl⟩ rfl rfl hl.1 rfl (lv_room (Nat.le_of_ble_eq_true rfl)) d_St_place_90 ⟨Nat.le_of_ble_eq_true rfl, Nat.le_of_ble_eq_true rfl⟩) hP hD hS hA [0] [] rfl rfl rfl (by decide) (fun u_90 H locs q_90 hP hD hS => ?_)
    have hP : va_P (dC, dI) vwCl [(hst, .inr (3, [.ref hp, .int (iZ x), .int (iZ y), .int (iZ q), .int (iZ ((x - lj))), .int (iZ ((y + i))), .int (iZ ((x - j))), .int (iZ ((y + li)))]))] H := hP
    have hD : va_D A [(hst, .inr (3, [.ref hp, .int (iZ x), .int (iZ y), .int (iZ q), .int (iZ ((x - lj))), .int (iZ ((y + i))), .int (iZ ((x - j))), .int (iZ ((y + li)))]))] := hD
    refine lv_goto (tgt := 157) hx hb d_St_place_93 (by decide) ?_
    exact W.vret hx hb hr (fun t ht hW => ⟨⟨(((x - lj), (y + i), (x - j), (y + li))), rfl, by refine ⟨fun px py => ?_, ?_, ?_, ?_, ?_, ?_, ?_, ?_, ?_⟩ <;> dsimp only [alg, acr] <;> omega, by rw [ht]; exact hP, va_K.moved hW.alike hK, hD⟩, hS.F ht⟩) hS.2.2 d_St_place_157
  have s_4_1 := s_4
  by_cases s_4 : q = 2
  · refine zt_in (tgt := 96) (k := 2) hx hb d_St_place_4 s_4 (by decide) (by decide) (by decide) (by decide) rfl (by decide) ?_
    refine lv_aload_n hx hb d_St_place_96 rfl (lv_at hl 0 rfl) ?_
    refine lv_aload_n hx hb d_St_place_97 rfl (lv_at hl 0 rfl) ?_
    refine va_get (D := (dC, dI)) (ci := 3) (v := .int (iZ x)) (C := R_St) (T := T_St) (N := 8) hx hb hts wi_St hown hK hP 0 rfl rfl 1 (by decide) (hts _ t_63) (fun _ h9 => h9) rfl d_St_place_98 ?_
    refine lv_iload_n hx hb d_St_place_101 rfl (lv_at hl 3 rfl) ?_
    refine zi_sub hx hb d_St_place_102 ?_
    refine lv_aload_n hx hb d_St_place_103 rfl (lv_at hl 0 rfl) ?_
    refine va_get (D := (dC, dI)) (ci := 3) (v := .int (iZ y)) (C := R_St) (T := T_St) (N := 8) hx hb hts wi_St hown hK hP 0 rfl rfl 2 (by decide) (hts _ t_64) (fun _ h9 => h9) rfl d_St_place_104 ?_
    refine lv_iload hx hb d_St_place_107 (lv_at hl 4 rfl) ?_
    refine zi_sub hx hb d_St_place_109 ?_
    refine lv_aload_n hx hb d_St_place_110 rfl (lv_at hl 0 rfl) ?_
    refine va_get (D := (dC, dI)) (ci := 3) (v := .int (iZ x)) (C := R_St) (T := T_St) (N := 8) hx hb hts wi_St hown hK hP 0 rfl rfl 1 (by decide) (hts _ t_63) (fun _ h9 => h9) rfl d_St_place_111 ?_
    refine lv_iload_n hx hb d_St_place_114 rfl (lv_at hl 1 rfl) ?_
    refine zi_sub hx hb d_St_place_115 ?_
    refine lv_aload_n hx hb d_St_place_116 rfl (lv_at hl 0 rfl) ?_
    refine va_get (D := (dC, dI)) (ci := 3) (v := .int (iZ y)) (C := R_St) (T := T_St) (N := 8) hx hb hts wi_St hown hK hP 0 rfl rfl 2 (by decide) (hts _ t_64) (fun _ h9 => h9) rfl d_St_place_117 ?_
    refine lv_iload_n hx hb d_St_place_120 rfl (lv_at hl 2 rfl) ?_
    refine zi_sub hx hb d_St_place_121 ?_
    refine zc_v (w1 := fun (u_122 : Unit) => [(hst, .inr (3, [.ref hp, .int (iZ x), .int (iZ y), .int (iZ q), .int (iZ ((x - li))), .int (iZ ((y - lj))), .int (iZ ((x - i))), .int (iZ ((y - j)))]))]) (wr := []) (va_runV (As := [.int (iZ (x - li)), .int (iZ (y - lj)), .int (iZ (x - i)), .int (iZ (y - j))]) (rest := []) ⟨hx, hb, hml, hown, hts⟩ (c_Steps_bound l dC dI hst hp x y q sl sp sr sb (x - li) (y - lj) (x - i) (y - j) H.size ) (cwV 4 hts (gV t_485 t_487 s_7 t_3 t_488) rfl rfl rfl (by decide +kernel) ⟨Nat.le_of_ble_eq_true rfl, Nat.le_of_ble_eq_true rfl⟩) ⟨zPm_blind, va_recv hK hP (ci := 3) (q0 := 0) rfl rfl, zPm_pre hP hD hK [0] [] rfl rfl rfl rfl⟩ rfl rfl hl.1 rfl (lv_room (Nat.le_of_ble_eq_true rfl)) d_St_place_122 ⟨Nat.le_of_ble_eq_true rfl, Nat.le_of_ble_eq_true rfl⟩) hP hD hS hA [0] [] rfl rfl rfl (by decide) (fun u_122 H locs q_122 hP hD hS => ?_)
    have hP : va_P (dC, dI) vwCl [(hst, .inr (3, [.ref hp, .int (iZ x), .int (iZ y), .int (iZ q), .int (iZ ((x - li))), .int (iZ ((y - lj))), .int (iZ ((x - i))), .int (iZ ((y - j)))]))] H := hP
    have hD : va_D A [(hst, .inr (3, [.ref hp, .int (iZ x), .int (iZ y), .int (iZ q), .int (iZ ((x - li))), .int (iZ ((y - lj))), .int (iZ ((x - i))), .int (iZ ((y - j)))]))] := hD
    refine lv_goto (tgt := 157) hx hb d_St_place_125 (by decide) ?_
    exact W.vret hx hb hr (fun t ht hW => ⟨⟨(((x - li), (y - lj), (x - i), (y - j))), rfl, by refine ⟨fun px py => ?_, ?_, ?_, ?_, ?_, ?_, ?_, ?_, ?_⟩ <;> dsimp only [alg, acr] <;> omega, by rw [ht]; exact hP, va_K.moved hW.alike hK, hD⟩, hS.F ht⟩) hS.2.2 d_St_place_157
  have s_4_2 := s_4
  refine zt_out (tgt := 128) hx hb d_St_place_4 (by omega) (by omega) (by omega) (by decide) ?_
  refine lv_aload_n hx hb d_St_place_128 rfl (lv_at hl 0 rfl) ?_
  refine lv_aload_n hx hb d_St_place_129 rfl (lv_at hl 0 rfl) ?_
  refine va_get (D := (dC, dI)) (ci := 3) (v := .int (iZ x)) (C := R_St) (T := T_St) (N := 8) hx hb hts wi_St hown hK hP 0 rfl rfl 1 (by decide) (hts _ t_63) (fun _ h9 => h9) rfl d_St_place_130 ?_
  refine lv_iload_n hx hb d_St_place_133 rfl (lv_at hl 2 rfl) ?_
  refine zi_add hx hb d_St_place_134 ?_
  refine lv_aload_n hx hb d_St_place_135 rfl (lv_at hl 0 rfl) ?_
  refine va_get (D := (dC, dI)) (ci := 3) (v := .int (iZ y)) (C := R_St) (T := T_St) (N := 8) hx hb hts wi_St hown hK hP 0 rfl rfl 2 (by decide) (hts _ t_64) (fun _ h9 => h9) rfl d_St_place_136 ?_
  refine lv_iload_n hx hb d_St_place_139 rfl (lv_at hl 3 rfl) ?_
  refine zi_sub hx hb d_St_place_140 ?_
  refine lv_aload_n hx hb d_St_place_141 rfl (lv_at hl 0 rfl) ?_
  refine va_get (D := (dC, dI)) (ci := 3) (v := .int (iZ x)) (C := R_St) (T := T_St) (N := 8) hx hb hts wi_St hown hK hP 0 rfl rfl 1 (by decide) (hts _ t_63) (fun _ h9 => h9) rfl d_St_place_142 ?_
  refine lv_iload hx hb d_St_place_145 (lv_at hl 4 rfl) ?_
  refine zi_add hx hb d_St_place_147 ?_
  refine lv_aload_n hx hb d_St_place_148 rfl (lv_at hl 0 rfl) ?_
  refine va_get (D := (dC, dI)) (ci := 3) (v := .int (iZ y)) (C := R_St) (T := T_St) (N := 8) hx hb hts wi_St hown hK hP 0 rfl rfl 2 (by decide) (hts _ t_64) (fun _ h9 => h9) rfl d_St_place_149 ?_
  refine lv_iload_n hx hb d_St_place_152 rfl (lv_at hl 1 rfl) ?_
  refine zi_sub hx hb d_St_place_153 ?_
  refine zc_v (w1 := fun (u_154 : Unit) => [(hst, .inr (3, [.ref hp, .int (iZ x), .int (iZ y), .int (iZ q), .int (iZ ((x + j))), .int (iZ ((y - li))), .int (iZ ((x + lj))), .int (iZ ((y - i)))]))]) (wr := []) (va_runV (As := [.int (iZ (x + j)), .int (iZ (y - li)), .int (iZ (x + lj)), .int (iZ (y - i))]) (rest := []) ⟨hx, hb, hml, hown, hts⟩ (c_Steps_bound l dC dI hst hp x y q sl sp sr sb (x + j) (y - li) (x + lj) (y - i) H.size ) (cwV 4 hts (gV t_485 t_487 s_7 t_3 t_488) rfl rfl rfl (by decide +kernel) ⟨Nat.le_of_ble_eq_true rfl, Nat.le_of_ble_eq_true rfl⟩) ⟨zPm_blind, va_recv hK hP (ci := 3) (q0 := 0) rfl rfl, zPm_pre hP hD hK [0] [] rfl rfl rfl rfl⟩ rfl rfl hl.1 rfl (lv_room (Nat.le_of_ble_eq_true rfl)) d_St_place_154 ⟨Nat.le_of_ble_eq_true rfl, Nat.le_of_ble_eq_true rfl⟩) hP hD hS hA [0] [] rfl rfl rfl (by decide) (fun u_154 H locs q_154 hP hD hS => ?_)
  have hP : va_P (dC, dI) vwCl [(hst, .inr (3, [.ref hp, .int (iZ x), .int (iZ y), .int (iZ q), .int (iZ ((x + j))), .int (iZ ((y - li))), .int (iZ ((x + lj))), .int (iZ ((y - i)))]))] H := hP
  have hD : va_D A [(hst, .inr (3, [.ref hp, .int (iZ x), .int (iZ y), .int (iZ q), .int (iZ ((x + j))), .int (iZ ((y - li))), .int (iZ ((x + lj))), .int (iZ ((y - i)))]))] := hD
  exact W.vret hx hb hr (fun t ht hW => ⟨⟨(((x + j), (y - li), (x + lj), (y - i))), rfl, by refine ⟨fun px py => ?_, ?_, ?_, ?_, ?_, ?_, ?_, ?_, ?_⟩ <;> dsimp only [alg, acr] <;> omega, by rw [ht]; exact hP, va_K.moved hW.alike hK, hD⟩, hS.F ht⟩) hS.2.2 d_St_place_157
theorem d_St_drawBlock_0 : decode c_ySt_drawBlock 0 = .ok (.aload_n 0, 1) := by decide +kernel
theorem d_St_drawBlock_1 : decode c_ySt_drawBlock 1 = .ok (.iload_n 1, 1) := by decide +kernel
theorem d_St_drawBlock_2 : decode c_ySt_drawBlock 2 = .ok (.iload_n 2, 1) := by decide +kernel
theorem d_St_drawBlock_3 : decode c_ySt_drawBlock 3 = .ok (.iload_n 1, 1) := by decide +kernel
theorem d_St_drawBlock_4 : decode c_ySt_drawBlock 4 = .ok (.iload_n 3, 1) := by decide +kernel
theorem d_St_drawBlock_5 : decode c_ySt_drawBlock 5 = .ok (.iadd, 1) := by decide +kernel
theorem d_St_drawBlock_6 : decode c_ySt_drawBlock 6 = .ok (.iconst 1, 1) := by decide +kernel
theorem d_St_drawBlock_7 : decode c_ySt_drawBlock 7 = .ok (.isub, 1) := by decide +kernel
theorem d_St_drawBlock_8 : decode c_ySt_drawBlock 8 = .ok (.iload_n 2, 1) := by decide +kernel
theorem d_St_drawBlock_9 : decode c_ySt_drawBlock 9 = .ok (.iload 4, 2) := by decide +kernel
theorem d_St_drawBlock_11 : decode c_ySt_drawBlock 11 = .ok (.iadd, 1) := by decide +kernel
theorem d_St_drawBlock_12 : decode c_ySt_drawBlock 12 = .ok (.iconst 1, 1) := by decide +kernel
theorem d_St_drawBlock_13 : decode c_ySt_drawBlock 13 = .ok (.isub, 1) := by decide +kernel
theorem d_St_drawBlock_14 : decode c_ySt_drawBlock 14 = .ok (.invokevirtual 23, 3) := by decide +kernel
theorem d_St_drawBlock_17 : decode c_ySt_drawBlock 17 = .ok (.aload_n 0, 1) := by decide +kernel
theorem d_St_drawBlock_18 : decode c_ySt_drawBlock 18 = .ok (.getfield 7, 3) := by decide +kernel
theorem d_St_drawBlock_21 : decode c_ySt_drawBlock 21 = .ok (.aload_n 0, 1) := by decide +kernel
theorem d_St_drawBlock_22 : decode c_ySt_drawBlock 22 = .ok (.getfield 27, 3) := by decide +kernel
theorem d_St_drawBlock_25 : decode c_ySt_drawBlock 25 = .ok (.aload_n 0, 1) := by decide +kernel
theorem d_St_drawBlock_26 : decode c_ySt_drawBlock 26 = .ok (.getfield 30, 3) := by decide +kernel
theorem d_St_drawBlock_29 : decode c_ySt_drawBlock 29 = .ok (.aload_n 0, 1) := by decide +kernel
theorem d_St_drawBlock_30 : decode c_ySt_drawBlock 30 = .ok (.getfield 33, 3) := by decide +kernel
theorem d_St_drawBlock_33 : decode c_ySt_drawBlock 33 = .ok (.aload_n 0, 1) := by decide +kernel
theorem d_St_drawBlock_34 : decode c_ySt_drawBlock 34 = .ok (.getfield 36, 3) := by decide +kernel
theorem d_St_drawBlock_37 : decode c_ySt_drawBlock 37 = .ok (.invokevirtual 39, 3) := by decide +kernel
theorem d_St_drawBlock_40 : decode c_ySt_drawBlock 40 = .ok (.ireturn, 1) := by decide +kernel
set_option maxHeartbeats 4000000 in
set_option maxRecDepth 100000 in
theorem c_Steps_drawBlock (l : Launch) (dC : Nat → ClassId) (dI : Nat → Nat → Nat) (hst hp : Nat) (x y q sl sp sr sb : Int) (hw hs hk : Nat) (cL : ClassId) (w h mn : Int) (G : Int → Int64) (pic : Int → Int → Bool) (i j al ac : Int) (sz : Nat) (w1 : 1 ≤ w) (w2 : w ≤ 1024) (h1 : 1 ≤ h) (h2 : h ≤ 1024) (mn1 : 0 ≤ mn) (mn2 : mn ≤ 2) (q1 : 0 ≤ q) (q2 : q ≤ 3) (x1 : -4096 ≤ x) (x2 : x ≤ 4096) (y1 : -4096 ≤ y) (y2 : y ≤ 4096) (i1 : 0 ≤ i) (i2 : i ≤ 60000000) (j1 : 0 ≤ j) (j2 : j ≤ 60000) (al1 : 0 ≤ al) (al2 : al ≤ 20000) (ac1 : 0 ≤ ac) (ac2 : ac ≤ 20000) (hR : Rep G pic) : Met l y_St_drawBlock w_St_drawBlock ({ frames := 3, cells := 0, slots := 0, locals := 77 }) (va_Pc [.ref hst, .int (iZ i), .int (iZ j), .int (iZ al), .int (iZ ac)] (zPm (dC, dI) vwCl [(hst, .inr (3, [.ref hp, .int (iZ x), .int (iZ y), .int (iZ q), .int (iZ sl), .int (iZ sp), .int (iZ sr), .int (iZ sb)])), (hp, .inr (2, [.int (iZ w), .int (iZ h), .int (iZ mn), .ref hw, .ref hs, .ref hk])), (hw, .inl (cL, 16384, .inr (.inl (aL G))))] [(cL, .long)] sz)) (va_Qi (fun (r : Int32) (u : (Int → Int64) × Int × Int × Int × Int) => r = iZ (cnt w h (stB q x y i j al ac)) ∧ Rep u.1 (drw mn (fun px py => onB w h px py && stB q x y i j al ac px py) pic)) (fun u => zB (dC, dI) vwCl [(cL, .long)] (va_A [(hst, .inr (3, [.ref hp, .int (iZ x), .int (iZ y), .int (iZ q), .int (iZ sl), .int (iZ sp), .int (iZ sr), .int (iZ sb)])), (hp, .inr (2, [.int (iZ w), .int (iZ h), .int (iZ mn), .ref hw, .ref hs, .ref hk])), (hw, .inl (cL, 16384, .inr (.inl (aL G))))] sz) [(hst, .inr (3, [.ref hp, .int (iZ x), .int (iZ y), .int (iZ q), .int (iZ u.2.1), .int (iZ u.2.2.1), .int (iZ u.2.2.2.1), .int (iZ u.2.2.2.2)])), (hp, .inr (2, [.int (iZ w), .int (iZ h), .int (iZ mn), .ref hw, .ref hs, .ref hk])), (hw, .inl (cL, 16384, .inr (.inl (aL u.1))))]) (va_A [(hst, .inr (3, [.ref hp, .int (iZ x), .int (iZ y), .int (iZ q), .int (iZ sl), .int (iZ sp), .int (iZ sr), .int (iZ sb)])), (hp, .inr (2, [.int (iZ w), .int (iZ h), .int (iZ mn), .ref hw, .ref hs, .ref hk])), (hw, .inl (cL, 16384, .inr (.inl (aL G))))] sz)) 0 0 (va_A [(hst, .inr (3, [.ref hp, .int (iZ x), .int (iZ y), .int (iZ q), .int (iZ sl), .int (iZ sp), .int (iZ sr), .int (iZ sb)])), (hp, .inr (2, [.int (iZ w), .int (iZ h), .int (iZ mn), .ref hw, .ref hs, .ref hk])), (hw, .inl (cL, 16384, .inr (.inl (aL G))))] sz) := by
  refine Met.ofW (cc := c_ySt_drawBlock) (maxL := 5) (ret := (some .int)) (by decide) rfl ?_
  intro p e s m args below meth c s₁ B hml hv
  obtain ⟨rfl, hsz, hP, hK, hD0⟩ := hv
  have hx := B.exec
  have hb := B.bytes
  have hr := B.returns
  have hts0 := atoms_spec (ws := w_St_drawBlock) B.pre
  have hts : ∀ w ∈ gT, w.before _ s = true := fun w h => hts0 w (List.mem_cons_of_mem _ h)
  have hown : s.vm.findClass R_St = some m.cls := findClass_of_methodNamed B.named
  have hlocks := B.notSynchronized
  subst hsz
  have hD := hD0.self (sz := s.heap.size)
  generalize hAe : va_A [(hst, .inr (3, [.ref hp, .int (iZ x), .int (iZ y), .int (iZ q), .int (iZ sl), .int (iZ sp), .int (iZ sr), .int (iZ sb)])), (hp, .inr (2, [.int (iZ w), .int (iZ h), .int (iZ mn), .ref hw, .ref hs, .ref hk])), (hw, .inl (cL, 16384, .inr (.inl (aL G))))] s.heap.size = A at hD ⊢
  have hA : ∀ q : Nat, s.heap.size ≤ q → A q := fun q h => by rw [← hAe]; exact Or.inr h
  obtain ⟨H, hH⟩ : ∃ H, s.heap = H := ⟨_, rfl⟩
  have hS : va_S A s.heap H [] := by rw [← hH]; exact va_S.rf
  rw [hH] at hP
  rw [hH]
  have hl := lv_entry ([.ref hst, .int (iZ i), .int (iZ j), .int (iZ al), .int (iZ ac)]) (n := 5) (Nat.le_of_ble_eq_true rfl)
  rw [lg_entry_eq]
  generalize (lg_sl ([.ref hst, .int (iZ i), .int (iZ j), .int (iZ al), .int (iZ ac)]) ++ List.replicate (5 - (lg_sl ([.ref hst, .int (iZ i), .int (iZ j), .int (iZ al), .int (iZ ac)])).length) Slot.unset).toArray = ls at hl ⊢
  have hl : lv_has ls 5 [(0, .ref hst), (1, .int (iZ i)), (2, .int (iZ j)), (3, .int (iZ al)), (4, .int (iZ ac))] := hl
  refine lv_aload_n hx hb d_St_drawBlock_0 rfl (lv_at hl 0 rfl) ?_
  refine lv_iload_n hx hb d_St_drawBlock_1 rfl (lv_at hl 1 rfl) ?_
  refine lv_iload_n hx hb d_St_drawBlock_2 rfl (lv_at hl 2 rfl) ?_
  refine lv_iload_n hx hb d_St_drawBlock_3 rfl (lv_at hl 1 rfl) ?_
  refine lv_iload_n hx hb d_St_drawBlock_4 rfl (lv_at hl 3 rfl) ?_
  refine zi_add hx hb d_St_drawBlock_5 ?_
  refine lv_iconst (v := iZ (1)) hx hb d_St_drawBlock_6 rfl ?_
  refine zi_sub hx hb d_St_drawBlock_7 ?_
  refine lv_iload_n hx hb d_St_drawBlock_8 rfl (lv_at hl 2 rfl) ?_
  refine lv_iload hx hb d_St_drawBlock_9 (lv_at hl 4 rfl) ?_
  refine zi_add hx hb d_St_drawBlock_11 ?_
  refine lv_iconst (v := iZ (1)) hx hb d_St_drawBlock_12 rfl ?_
  refine zi_sub hx hb d_St_drawBlock_13 ?_
  refine zc_v (w1 := fun (u_14 : Int × Int × Int × Int) => [(hst, .inr (3, [.ref hp, .int (iZ x), .int (iZ y), .int (iZ q), .int (iZ u_14.1), .int (iZ u_14.2.1), .int (iZ u_14.2.2.1), .int (iZ u_14.2.2.2)]))]) (wr := [(hp, .inr (2, [.int (iZ w), .int (iZ h), .int (iZ mn), .ref hw, .ref hs, .ref hk])), (hw, .inl (cL, 16384, .inr (.inl (aL G))))]) (va_runV (As := [.int (iZ i), .int (iZ j), .int (iZ ((i + al) - 1)), .int (iZ ((j + ac) - 1))]) (rest := []) ⟨hx, hb, hml, hown, hts⟩ (c_Steps_place l dC dI hst hp x y q sl sp sr sb i j ((i + al) - 1) ((j + ac) - 1) H.size (by first | omega | assumption) (by first | omega | assumption) (by first | omega | assumption) (by first | omega | assumption) (by first | omega | assumption) (by first | omega | assumption) (by first | omega | assumption) (by first | omega | assumption) (by first | omega | assumption) (by first | omega | assumption) (by first | omega | assumption) (by first | omega | assumption) (by first | omega | assumption) (by first | omega | assumption)) (cwV 4 hts (gV t_481 t_483 s_6 t_3 t_484) rfl rfl rfl (by decide +kernel) ⟨Nat.le_of_ble_eq_true rfl, Nat.le_of_ble_eq_true rfl⟩) ⟨zPm_blind, va_recv hK hP (ci := 3) (q0 := 0) rfl rfl, zPm_pre hP hD hK [0] [] rfl rfl rfl rfl⟩ rfl rfl hl.1 rfl (lv_room (Nat.le_of_ble_eq_true rfl)) d_St_drawBlock_14 ⟨Nat.le_of_ble_eq_true rfl, Nat.le_of_ble_eq_true rfl⟩) hP hD hS hA [0] [1, 2] rfl rfl rfl (by decide) (fun u_14 H locs q_14 hP hD hS => ?_)
  have hP : va_P (dC, dI) vwCl [(hp, .inr (2, [.int (iZ w), .int (iZ h), .int (iZ mn), .ref hw, .ref hs, .ref hk])), (hw, .inl (cL, 16384, .inr (.inl (aL G)))), (hst, .inr (3, [.ref hp, .int (iZ x), .int (iZ y), .int (iZ q), .int (iZ u_14.1), .int (iZ u_14.2.1), .int (iZ u_14.2.2.1), .int (iZ u_14.2.2.2)]))] H := hP
  have hD : va_D A [(hp, .inr (2, [.int (iZ w), .int (iZ h), .int (iZ mn), .ref hw, .ref hs, .ref hk])), (hw, .inl (cL, 16384, .inr (.inl (aL G)))), (hst, .inr (3, [.ref hp, .int (iZ x), .int (iZ y), .int (iZ q), .int (iZ u_14.1), .int (iZ u_14.2.1), .int (iZ u_14.2.2.1), .int (iZ u_14.2.2.2)]))] := hD
  obtain ⟨q_14, b14_1, b14_2, b14_3, b14_4, b14_5, b14_6, b14_7, b14_8⟩ := q_14
  have e14 : ∀ px py : Int, bxB u_14.1 u_14.2.1 u_14.2.2.1 u_14.2.2.2 px py = stB q x y i j al ac px py := fun px py => by unfold bxB stB; exact decide_eq_decide.mpr (by have := q_14 px py; omega)
  refine lv_aload_n hx hb d_St_drawBlock_17 rfl (lv_at hl 0 rfl) ?_
  refine va_get (D := (dC, dI)) (ci := 3) (v := .ref hp) (C := R_St) (T := T_St) (N := 8) hx hb hts wi_St hown hK hP 2 rfl rfl 0 (by decide) (hts _ t_62) (fun _ h9 => h9) rfl d_St_drawBlock_18 ?_
  refine lv_aload_n hx hb d_St_drawBlock_21 rfl (lv_at hl 0 rfl) ?_
  refine va_get (D := (dC, dI)) (ci := 3) (v := .int (iZ u_14.1)) (C := R_St) (T := T_St) (N := 8) hx hb hts wi_St hown hK hP 2 rfl rfl 4 (by decide) (hts _ t_66) (fun _ h9 => h9) rfl d_St_drawBlock_22 ?_
  refine lv_aload_n hx hb d_St_drawBlock_25 rfl (lv_at hl 0 rfl) ?_
  refine va_get (D := (dC, dI)) (ci := 3) (v := .int (iZ u_14.2.1)) (C := R_St) (T := T_St) (N := 8) hx hb hts wi_St hown hK hP 2 rfl rfl 5 (by decide) (hts _ t_67) (fun _ h9 => h9) rfl d_St_drawBlock_26 ?_
  refine lv_aload_n hx hb d_St_drawBlock_29 rfl (lv_at hl 0 rfl) ?_
  refine va_get (D := (dC, dI)) (ci := 3) (v := .int (iZ u_14.2.2.1)) (C := R_St) (T := T_St) (N := 8) hx hb hts wi_St hown hK hP 2 rfl rfl 6 (by decide) (hts _ t_68) (fun _ h9 => h9) rfl d_St_drawBlock_30 ?_
  refine lv_aload_n hx hb d_St_drawBlock_33 rfl (lv_at hl 0 rfl) ?_
  refine va_get (D := (dC, dI)) (ci := 3) (v := .int (iZ u_14.2.2.2)) (C := R_St) (T := T_St) (N := 8) hx hb hts wi_St hown hK hP 2 rfl rfl 7 (by decide) (hts _ t_69) (fun _ h9 => h9) rfl d_St_drawBlock_34 ?_
  refine zc_i (w1 := fun (u_37 : Int → Int64) => [(hp, .inr (2, [.int (iZ w), .int (iZ h), .int (iZ mn), .ref hw, .ref hs, .ref hk])), (hw, .inl (cL, 16384, .inr (.inl (aL u_37))))]) (wr := [(hst, .inr (3, [.ref hp, .int (iZ x), .int (iZ y), .int (iZ q), .int (iZ u_14.1), .int (iZ u_14.2.1), .int (iZ u_14.2.2.1), .int (iZ u_14.2.2.2)]))]) (va_runV (As := [.int (iZ u_14.1), .int (iZ u_14.2.1), .int (iZ u_14.2.2.1), .int (iZ u_14.2.2.2)]) (rest := []) ⟨hx, hb, hml, hown, hts⟩ (c_Paper_drawBox l dC dI hp hw hs hk cL w h mn G pic u_14.1 u_14.2.1 u_14.2.2.1 u_14.2.2.2 H.size (by first | omega | assumption) (by first | omega | assumption) (by first | omega | assumption) (by first | omega | assumption) (by first | omega | assumption) (by first | omega | assumption) (by first | omega | assumption) (by first | omega | assumption) (by first | omega | assumption) (by first | omega | assumption) (by first | omega | assumption) (by first | omega | assumption) (by first | omega | assumption) (by first | omega | assumption) (by first | omega | assumption)) (cwV 4 hts (gV t_509 t_279 t_280 t_2 t_281) rfl rfl rfl (by decide +kernel) ⟨Nat.le_of_ble_eq_true rfl, Nat.le_of_ble_eq_true rfl⟩) ⟨zPm_blind, va_recv hK hP (ci := 2) (q0 := 0) rfl rfl, zPm_pre hP hD hK [0, 1] [0] rfl rfl rfl rfl⟩ rfl rfl hl.1 rfl (lv_room (Nat.le_of_ble_eq_true rfl)) d_St_drawBlock_37 ⟨Nat.le_of_ble_eq_true rfl, Nat.le_of_ble_eq_true rfl⟩) hP hD hS hA [0, 1] [2] rfl rfl rfl (by decide) (fun r_37 u_37 H locs q_37 hP hD hS => ?_)
  have hP : va_P (dC, dI) vwCl [(hst, .inr (3, [.ref hp, .int (iZ x), .int (iZ y), .int (iZ q), .int (iZ u_14.1), .int (iZ u_14.2.1), .int (iZ u_14.2.2.1), .int (iZ u_14.2.2.2)])), (hp, .inr (2, [.int (iZ w), .int (iZ h), .int (iZ mn), .ref hw, .ref hs, .ref hk])), (hw, .inl (cL, 16384, .inr (.inl (aL u_37))))] H := hP
  have hD : va_D A [(hst, .inr (3, [.ref hp, .int (iZ x), .int (iZ y), .int (iZ q), .int (iZ u_14.1), .int (iZ u_14.2.1), .int (iZ u_14.2.2.1), .int (iZ u_14.2.2.2)])), (hp, .inr (2, [.int (iZ w), .int (iZ h), .int (iZ mn), .ref hw, .ref hs, .ref hk])), (hw, .inl (cL, 16384, .inr (.inl (aL u_37))))] := hD
  obtain ⟨rfl, q_37⟩ := q_37
  exact W.iret hx hb hr (fun t ht hW => ⟨⟨_, ((u_37, u_14)), rfl, ⟨congrArg iZ (by rw [boxN_cnt w1 h1]; exact cnt_ext (fun x y _ _ _ _ => e14 x y)), by rw [show (fun px py => onB w h px py && stB q x y i j al ac px py) = (fun px py => onB w h px py && bxB u_14.1 u_14.2.1 u_14.2.2.1 u_14.2.2.2 px py) from funext (fun px => funext (fun py => by rw [e14]))]; exact q_37⟩, by rw [ht]; exact hP, va_K.moved hW.alike hK, hD⟩, hS.F ht⟩) hS.2.2 d_St_drawBlock_40
theorem d_St_touchPaper_0 : decode c_ySt_touchPaper 0 = .ok (.aload_n 0, 1) := by decide +kernel
theorem d_St_touchPaper_1 : decode c_ySt_touchPaper 1 = .ok (.iload_n 1, 1) := by decide +kernel
theorem d_St_touchPaper_2 : decode c_ySt_touchPaper 2 = .ok (.iload_n 2, 1) := by decide +kernel
theorem d_St_touchPaper_3 : decode c_ySt_touchPaper 3 = .ok (.iload_n 1, 1) := by decide +kernel
theorem d_St_touchPaper_4 : decode c_ySt_touchPaper 4 = .ok (.iload_n 3, 1) := by decide +kernel
theorem d_St_touchPaper_5 : decode c_ySt_touchPaper 5 = .ok (.iadd, 1) := by decide +kernel
theorem d_St_touchPaper_6 : decode c_ySt_touchPaper 6 = .ok (.iconst 1, 1) := by decide +kernel
theorem d_St_touchPaper_7 : decode c_ySt_touchPaper 7 = .ok (.isub, 1) := by decide +kernel
theorem d_St_touchPaper_8 : decode c_ySt_touchPaper 8 = .ok (.iload_n 2, 1) := by decide +kernel
theorem d_St_touchPaper_9 : decode c_ySt_touchPaper 9 = .ok (.iload 4, 2) := by decide +kernel
theorem d_St_touchPaper_11 : decode c_ySt_touchPaper 11 = .ok (.iadd, 1) := by decide +kernel
theorem d_St_touchPaper_12 : decode c_ySt_touchPaper 12 = .ok (.iconst 1, 1) := by decide +kernel
theorem d_St_touchPaper_13 : decode c_ySt_touchPaper 13 = .ok (.isub, 1) := by decide +kernel
theorem d_St_touchPaper_14 : decode c_ySt_touchPaper 14 = .ok (.invokevirtual 23, 3) := by decide +kernel
theorem d_St_touchPaper_17 : decode c_ySt_touchPaper 17 = .ok (.aload_n 0, 1) := by decide +kernel
theorem d_St_touchPaper_18 : decode c_ySt_touchPaper 18 = .ok (.getfield 7, 3) := by decide +kernel
theorem d_St_touchPaper_21 : decode c_ySt_touchPaper 21 = .ok (.aload_n 0, 1) := by decide +kernel
theorem d_St_touchPaper_22 : decode c_ySt_touchPaper 22 = .ok (.getfield 27, 3) := by decide +kernel
theorem d_St_touchPaper_25 : decode c_ySt_touchPaper 25 = .ok (.aload_n 0, 1) := by decide +kernel
theorem d_St_touchPaper_26 : decode c_ySt_touchPaper 26 = .ok (.getfield 30, 3) := by decide +kernel
theorem d_St_touchPaper_29 : decode c_ySt_touchPaper 29 = .ok (.aload_n 0, 1) := by decide +kernel
theorem d_St_touchPaper_30 : decode c_ySt_touchPaper 30 = .ok (.getfield 33, 3) := by decide +kernel
theorem d_St_touchPaper_33 : decode c_ySt_touchPaper 33 = .ok (.aload_n 0, 1) := by decide +kernel
theorem d_St_touchPaper_34 : decode c_ySt_touchPaper 34 = .ok (.getfield 36, 3) := by decide +kernel
theorem d_St_touchPaper_37 : decode c_ySt_touchPaper 37 = .ok (.invokevirtual 45, 3) := by decide +kernel
theorem d_St_touchPaper_40 : decode c_ySt_touchPaper 40 = .ok (.ireturn, 1) := by decide +kernel
set_option maxHeartbeats 4000000 in
set_option maxRecDepth 100000 in
theorem c_Steps_touchPaper (l : Launch) (dC : Nat → ClassId) (dI : Nat → Nat → Nat) (hst hp : Nat) (x y q sl sp sr sb : Int) (hw hs hk : Nat) (w h mn i j al ac : Int) (sz : Nat) (w1 : 1 ≤ w) (w2 : w ≤ 1024) (h1 : 1 ≤ h) (h2 : h ≤ 1024) (q1 : 0 ≤ q) (q2 : q ≤ 3) (x1 : -4096 ≤ x) (x2 : x ≤ 4096) (y1 : -4096 ≤ y) (y2 : y ≤ 4096) (i1 : 0 ≤ i) (i2 : i ≤ 60000000) (j1 : 0 ≤ j) (j2 : j ≤ 60000) (al1 : 0 ≤ al) (al2 : al ≤ 20000) (ac1 : 0 ≤ ac) (ac2 : ac ≤ 20000) : Met l y_St_touchPaper w_St_touchPaper ({ frames := 2, cells := 0, slots := 0, locals := 48 }) (va_Pc [.ref hst, .int (iZ i), .int (iZ j), .int (iZ al), .int (iZ ac)] (zPm (dC, dI) vwCl [(hst, .inr (3, [.ref hp, .int (iZ x), .int (iZ y), .int (iZ q), .int (iZ sl), .int (iZ sp), .int (iZ sr), .int (iZ sb)])), (hp, .inr (2, [.int (iZ w), .int (iZ h), .int (iZ mn), .ref hw, .ref hs, .ref hk]))] [] sz)) (va_Qi (fun (r : Int32) (u : Int × Int × Int × Int) => ∃ b : Bool, r = bI b ∧ (b = false → ∀ px py : Int, onB w h px py = true → stB q x y i j al ac px py = false)) (fun u => zB (dC, dI) vwCl [] (va_A [(hst, .inr (3, [.ref hp, .int (iZ x), .int (iZ y), .int (iZ q), .int (iZ sl), .int (iZ sp), .int (iZ sr), .int (iZ sb)])), (hp, .inr (2, [.int (iZ w), .int (iZ h), .int (iZ mn), .ref hw, .ref hs, .ref hk]))] sz) [(hst, .inr (3, [.ref hp, .int (iZ x), .int (iZ y), .int (iZ q), .int (iZ u.1), .int (iZ u.2.1), .int (iZ u.2.2.1), .int (iZ u.2.2.2)])), (hp, .inr (2, [.int (iZ w), .int (iZ h), .int (iZ mn), .ref hw, .ref hs, .ref hk]))]) (va_A [(hst, .inr (3, [.ref hp, .int (iZ x), .int (iZ y), .int (iZ q), .int (iZ sl), .int (iZ sp), .int (iZ sr), .int (iZ sb)])), (hp, .inr (2, [.int (iZ w), .int (iZ h), .int (iZ mn), .ref hw, .ref hs, .ref hk]))] sz)) 0 0 (va_A [(hst, .inr (3, [.ref hp, .int (iZ x), .int (iZ y), .int (iZ q), .int (iZ sl), .int (iZ sp), .int (iZ sr), .int (iZ sb)])), (hp, .inr (2, [.int (iZ w), .int (iZ h), .int (iZ mn), .ref hw, .ref hs, .ref hk]))] sz) := by
  refine Met.ofW (cc := c_ySt_touchPaper) (maxL := 5) (ret := (some .boolean)) (by decide) rfl ?_
  intro p e s m args below meth c s₁ B hml hv
  obtain ⟨rfl, hsz, hP, hK, hD0⟩ := hv
  have hx := B.exec
  have hb := B.bytes
  have hr := B.returns
  have hts0 := atoms_spec (ws := w_St_touchPaper) B.pre
  have hts : ∀ w ∈ gT, w.before _ s = true := fun w h => hts0 w (List.mem_cons_of_mem _ h)
  have hown : s.vm.findClass R_St = some m.cls := findClass_of_methodNamed B.named
  have hlocks := B.notSynchronized
  subst hsz
  have hD := hD0.self (sz := s.heap.size)
  generalize hAe : va_A [(hst, .inr (3, [.ref hp, .int (iZ x), .int (iZ y), .int (iZ q), .int (iZ sl), .int (iZ sp), .int (iZ sr), .int (iZ sb)])), (hp, .inr (2, [.int (iZ w), .int (iZ h), .int (iZ mn), .ref hw, .ref hs, .ref hk]))] s.heap.size = A at hD ⊢
  have hA : ∀ q : Nat, s.heap.size ≤ q → A q := fun q h => by rw [← hAe]; exact Or.inr h
  obtain ⟨H, hH⟩ : ∃ H, s.heap = H := ⟨_, rfl⟩
  have hS : va_S A s.heap H [] := by rw [← hH]; exact va_S.rf
  rw [hH] at hP
  rw [hH]
  have hl := lv_entry ([.ref hst, .int (iZ i), .int (iZ j), .int (iZ al), .int (iZ ac)]) (n := 5) (Nat.le_of_ble_eq_true rfl)
  rw [lg_entry_eq]
  generalize (lg_sl ([.ref hst, .int (iZ i), .int (iZ j), .int (iZ al), .int (iZ ac)]) ++ List.replicate (5 - (lg_sl ([.ref hst, .int (iZ i), .int (iZ j), .int (iZ al), .int (iZ ac)])).length) Slot.unset).toArray = ls at hl ⊢
  have hl : lv_has ls 5 [(0, .ref hst), (1, .int (iZ i)), (2, .int (iZ j)), (3, .int (iZ al)), (4, .int (iZ ac))] := hl
  refine lv_aload_n hx hb d_St_touchPaper_0 rfl (lv_at hl 0 rfl) ?_
  refine lv_iload_n hx hb d_St_touchPaper_1 rfl (lv_at hl 1 rfl) ?_
  refine lv_iload_n hx hb d_St_touchPaper_2 rfl (lv_at hl 2 rfl) ?_
  refine lv_iload_n hx hb d_St_touchPaper_3 rfl (lv_at hl 1 rfl) ?_
  refine lv_iload_n hx hb d_St_touchPaper_4 rfl (lv_at hl 3 rfl) ?_
  refine zi_add hx hb d_St_touchPaper_5 ?_
  refine lv_iconst (v := iZ (1)) hx hb d_St_touchPaper_6 rfl ?_
  refine zi_sub hx hb d_St_touchPaper_7 ?_
  refine lv_iload_n hx hb d_St_touchPaper_8 rfl (lv_at hl 2 rfl) ?_
  refine lv_iload hx hb d_St_touchPaper_9 (lv_at hl 4 rfl) ?_
  refine zi_add hx hb d_St_touchPaper_11 ?_
  refine lv_iconst (v := iZ (1)) hx hb d_St_touchPaper_12 rfl ?_
  refine zi_sub hx hb d_St_touchPaper_13 ?_
  refine zc_v (w1 := fun (u_14 : Int × Int × Int × Int) => [(hst, .inr (3, [.ref hp, .int (iZ x), .int (iZ y), .int (iZ q), .int (iZ u_14.1), .int (iZ u_14.2.1), .int (iZ u_14.2.2.1), .int (iZ u_14.2.2.2)]))]) (wr := [(hp, .inr (2, [.int (iZ w), .int (iZ h), .int (iZ mn), .ref hw, .ref hs, .ref hk]))]) (va_runV (As := [.int (iZ i), .int (iZ j), .int (iZ ((i + al) - 1)), .int (iZ ((j + ac) - 1))]) (rest := []) ⟨hx, hb, hml, hown, hts⟩ (c_Steps_place l dC dI hst hp x y q sl sp sr sb i j ((i + al) - 1) ((j + ac) - 1) H.size (by first | omega | assumption) (by first | omega | assumption) (by first | omega | assumption) (by first | omega | assumption) (by first | omega | assumption) (by first | omega | assumption) (by first | omega | assumption) (by first | omega | assumption) (by first | omega | assumption) (by first | omega | assumption) (by first | omega | assumption) (by first | omega | assumption) (by first | omega | assumption) (by first | omega | assumption)) (cwV 4 hts (gV t_481 t_483 s_6 t_3 t_484) rfl rfl rfl (by decide +kernel) ⟨Nat.le_of_ble_eq_true rfl, Nat.le_of_ble_eq_true rfl⟩) ⟨zPm_blind, va_recv hK hP (ci := 3) (q0 := 0) rfl rfl, zPm_pre hP hD hK [0] [] rfl rfl rfl rfl⟩ rfl rfl hl.1 rfl (lv_room (Nat.le_of_ble_eq_true rfl)) d_St_touchPaper_14 ⟨Nat.le_of_ble_eq_true rfl, Nat.le_of_ble_eq_true rfl⟩) hP hD hS hA [0] [1] rfl rfl rfl (by decide) (fun u_14 H locs q_14 hP hD hS => ?_)
  have hP : va_P (dC, dI) vwCl [(hp, .inr (2, [.int (iZ w), .int (iZ h), .int (iZ mn), .ref hw, .ref hs, .ref hk])), (hst, .inr (3, [.ref hp, .int (iZ x), .int (iZ y), .int (iZ q), .int (iZ u_14.1), .int (iZ u_14.2.1), .int (iZ u_14.2.2.1), .int (iZ u_14.2.2.2)]))] H := hP
  have hD : va_D A [(hp, .inr (2, [.int (iZ w), .int (iZ h), .int (iZ mn), .ref hw, .ref hs, .ref hk])), (hst, .inr (3, [.ref hp, .int (iZ x), .int (iZ y), .int (iZ q), .int (iZ u_14.1), .int (iZ u_14.2.1), .int (iZ u_14.2.2.1), .int (iZ u_14.2.2.2)]))] := hD
  obtain ⟨q_14, b14_1, b14_2, b14_3, b14_4, b14_5, b14_6, b14_7, b14_8⟩ := q_14
  refine lv_aload_n hx hb d_St_touchPaper_17 rfl (lv_at hl 0 rfl) ?_
  refine va_get (D := (dC, dI)) (ci := 3) (v := .ref hp) (C := R_St) (T := T_St) (N := 8) hx hb hts wi_St hown hK hP 1 rfl rfl 0 (by decide) (hts _ t_62) (fun _ h9 => h9) rfl d_St_touchPaper_18 ?_
  refine lv_aload_n hx hb d_St_touchPaper_21 rfl (lv_at hl 0 rfl) ?_
  refine va_get (D := (dC, dI)) (ci := 3) (v := .int (iZ u_14.1)) (C := R_St) (T := T_St) (N := 8) hx hb hts wi_St hown hK hP 1 rfl rfl 4 (by decide) (hts _ t_66) (fun _ h9 => h9) rfl d_St_touchPaper_22 ?_
  refine lv_aload_n hx hb d_St_touchPaper_25 rfl (lv_at hl 0 rfl) ?_
  refine va_get (D := (dC, dI)) (ci := 3) (v := .int (iZ u_14.2.1)) (C := R_St) (T := T_St) (N := 8) hx hb hts wi_St hown hK hP 1 rfl rfl 5 (by decide) (hts _ t_67) (fun _ h9 => h9) rfl d_St_touchPaper_26 ?_
  refine lv_aload_n hx hb d_St_touchPaper_29 rfl (lv_at hl 0 rfl) ?_
  refine va_get (D := (dC, dI)) (ci := 3) (v := .int (iZ u_14.2.2.1)) (C := R_St) (T := T_St) (N := 8) hx hb hts wi_St hown hK hP 1 rfl rfl 6 (by decide) (hts _ t_68) (fun _ h9 => h9) rfl d_St_touchPaper_30 ?_
  refine lv_aload_n hx hb d_St_touchPaper_33 rfl (lv_at hl 0 rfl) ?_
  refine va_get (D := (dC, dI)) (ci := 3) (v := .int (iZ u_14.2.2.2)) (C := R_St) (T := T_St) (N := 8) hx hb hts wi_St hown hK hP 1 rfl rfl 7 (by decide) (hts _ t_69) (fun _ h9 => h9) rfl d_St_touchPaper_34 ?_
  refine vp_callSi (va_runV (As := [.int (iZ u_14.1), .int (iZ u_14.2.1), .int (iZ u_14.2.2.1), .int (iZ u_14.2.2.2)]) (rest := []) ⟨hx, hb, hml, hown, hts⟩ (c_Paper_touches l dC dI hp hw hs hk w h mn u_14.1 u_14.2.1 u_14.2.2.1 u_14.2.2.2 (by first | omega | assumption) (by first | omega | assumption) (by first | omega | assumption) (by first | omega | assumption) (by first | omega | assumption) (by first | omega | assumption) (by first | omega | assumption) (by first | omega | assumption) (by first | omega | assumption) (by first | omega | assumption) (by first | omega | assumption) (by first | omega | assumption)) (cwV 4 hts (gV t_489 t_490 t_491 t_2 t_492) rfl rfl rfl (by decide +kernel) ⟨Nat.le_of_ble_eq_true rfl, Nat.le_of_ble_eq_true rfl⟩) ⟨zPr_blind, va_recv hK hP (ci := 2) (q0 := 0) rfl rfl, zPr_pre hP hK [0] [] rfl rfl⟩ rfl rfl hl.1 rfl (lv_room (Nat.le_of_ble_eq_true rfl)) d_St_touchPaper_37 ⟨Nat.le_of_ble_eq_true rfl, Nat.le_of_ble_eq_true rfl⟩).run (fun r_37 q_37 => ?_)
  obtain rfl := q_37
  have hP := hP.sub (ws' := [(hst, .inr (3, [.ref hp, .int (iZ x), .int (iZ y), .int (iZ q), .int (iZ u_14.1), .int (iZ u_14.2.1), .int (iZ u_14.2.2.1), .int (iZ u_14.2.2.2)])), (hp, .inr (2, [.int (iZ w), .int (iZ h), .int (iZ mn), .ref hw, .ref hs, .ref hk]))]) [1, 0] rfl
  have hD := hD.sub (ws' := [(hst, .inr (3, [.ref hp, .int (iZ x), .int (iZ y), .int (iZ q), .int (iZ u_14.1), .int (iZ u_14.2.1), .int (iZ u_14.2.2.1), .int (iZ u_14.2.2.2)])), (hp, .inr (2, [.int (iZ w), .int (iZ h), .int (iZ mn), .ref hw, .ref hs, .ref hk]))]) [1, 0] (by decide) rfl
  exact W.zret (ty := .boolean) hx hb hr (bI_nar _) (fun t ht hW => ⟨⟨_, u_14, rfl, ⟨_, rfl, fun z px py o => by have := of_decide_eq_false z; have o := of_decide_eq_true o; unfold stB; exact decide_eq_false (by have := q_14 px py; omega)⟩, by rw [ht]; exact hP, va_K.moved hW.alike hK, hD⟩, hS.F ht⟩) hS.2.2 d_St_touchPaper_40
