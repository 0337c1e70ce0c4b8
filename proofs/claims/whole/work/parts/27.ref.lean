/-! the reference: dots as bits of ints, the lowest the leftmost -/
section ZZB
variable {p : Program} {l : Launch} {e : Env} {R : Room} {s : State} {m : MethodId} {args : Array Value} {below : List Frame} {meth : Method} {c : Code} {H : Heap} {locs : List Loc} {cells slots : Nat} {Q : State → Prop}
variable {cc : ByteArray} {pc : Nat} {ls : Array Slot} {rest : List Value} {D : va_G} {cl : List vw_C} {A : Nat → Prop} {a : Nat} {tys : List (ClassId × FieldType)} {ws : va_W} {H0 : Heap}
theorem z_zald (hx : p.tables.exec = Jvm.exec) (hb : c.code = cc) (hK : va_K D cl tys s) (hP : va_P D cl ws H) (q0 t0 : Nat) {cA : ClassId} {n : Nat} {G : Int → Int32} (ha : ws[q0]? = some (a, .inl (cA, n, .inl (aI G)))) (ht : tys[t0]? = some (cA, .boolean)) {i : Int} (h1 : 0 ≤ i) (h2 : i < n) (hn : n < 2147483648) (d : decode cc pc = .ok (.baload, 1)) (kk : W p l e R s m args below meth c H locs cells slots Q (F0 m (pc + 1) ls (.int (G i) :: rest))) : W p l e R s m args below meth c H locs cells slots Q (F0 m pc ls (.int (iZ i) :: .ref a :: rest)) := va_zald hx hb hK hP q0 t0 ha ht (iZ_in h1 h2 hn) d (by rw [aI_at G h1 (by omega)]; exact kk)
theorem z_zast (hx : p.tables.exec = Jvm.exec) (hb : c.code = cc) (hK : va_K D cl tys s) (hP : va_P D cl ws H) (hD : va_D A ws) (hS : va_S A H0 H locs) (q0 t0 : Nat) {cA : ClassId} {n : Nat} {G : Int → Int32} (ha : ws[q0]? = some (a, .inl (cA, n, .inl (aI G)))) (ht : tys[t0]? = some (cA, .boolean)) {i : Int} {x : Int32} (h1 : 0 ≤ i) (h2 : i < n) (hn : n < 2147483648) (d : decode cc pc = .ok (.bastore, 1)) (kk : ∀ (H1 : Heap) (locs1 : List Loc), va_P D cl (ws.set q0 (a, .inl (cA, n, .inl (aI (upZ G i (vp_nar .boolean x)))))) H1 → va_D A (ws.set q0 (a, .inl (cA, n, .inl (aI (upZ G i (vp_nar .boolean x)))))) → va_S A H0 H1 locs1 → W p l e R s m args below meth c H1 locs1 cells slots Q (F0 m (pc + 1) ls rest)) : W p l e R s m args below meth c H locs cells slots Q (F0 m pc ls (.int x :: .int (iZ i) :: .ref a :: rest)) := va_zast hx hb hK hP hD hS q0 t0 ha ht (iZ_in h1 h2 hn) d (fun H1 locs1 q1 q2 q3 => by rw [aI_up G _ h1 (by omega)] at q1 q2; exact kk H1 locs1 q1 q2 q3)
end ZZB
def RepM (K : Int → Int32) (pic : Int → Int → Bool) : Prop := ∀ x y : Int, 0 ≤ x → x < 1024 → 0 ≤ y → y < 1024 → fbit (K (32 * y + x / 32)) (x % 32) = pic x y
def RepT (T : Int → Int32) (n : Int) (dr : Int → Int) : Prop := ∀ k : Int, 0 ≤ k → k < n → T k = iZ (dr k) ∧ 0 ≤ dr k ∧ dr k ≤ 255
theorem and1 (x : Int32) : x &&& iZ 1 = iZ 1 ↔ x.toBitVec.getLsbD 0 = true := by
  rw [pk_and _ (m := iZ 1) 1 (by decide), show iZ 1 = nI 1 from rfl, nI_eq (by omega) (by decide), ← BitVec.testBit_toNat, Nat.testBit_zero]
  simp
theorem sm31 {k : Int} (k0 : 0 ≤ k) (k1 : k < 32) : ((iZ k &&& 31).toBitVec.smod 32).toNat = k.toNat := by
  rw [iZ_nI k0]; exact (show ∀ n, n < 32 → ((nI n &&& 31).toBitVec.smod 32).toNat = n by decide +kernel) _ (by omega)
theorem fb_shr (v : Int32) {k : Int} (k0 : 0 ≤ k) (k1 : k < 32) : ((v >>> (iZ k &&& 31)) &&& iZ 1 = iZ 1) ↔ fbit v k = true := by
  rw [and1, Int32.toBitVec_shiftRight, BitVec.sshiftRight_eq', sm31 k0 k1, BitVec.getLsbD_sshiftRight]
  unfold fbit
  have : k.toNat < 32 := by omega
  simp [this]
theorem fb_tog (v : Int32) {k j : Int} (k0 : 0 ≤ k) (k1 : k < 32) (j0 : 0 ≤ j) (j1 : j < 32) : fbit (v ^^^ (iZ 1 <<< (iZ k &&& 31))) j = if j = k then !fbit v j else fbit v j := by
  unfold fbit
  rw [Int32.toBitVec_xor, BitVec.getLsbD_xor, Int32.toBitVec_shiftLeft, BitVec.shiftLeft_eq', sm31 k0 k1, BitVec.getLsbD_shiftLeft]
  have e1 : ∀ m, m < 32 → (iZ 1).toBitVec.getLsbD m = decide (m = 0) := by decide +kernel
  rw [e1 _ (by omega)]
  by_cases h : j = k
  · subst h; rw [if_pos rfl]; simp [show j.toNat < 32 by omega]
  · rw [if_neg h]
    by_cases q : j.toNat < k.toNat
    · simp [q]
    · simp [show ¬ j.toNat - k.toNat = 0 by omega]
def tog (pic : Int → Int → Bool) (x y : Int) : Int → Int → Bool := fun px py => if px = x ∧ py = y then !pic px py else pic px py
theorem rm_tog {K : Int → Int32} {pic : Int → Int → Bool} (h : RepM K pic) {x y : Int} (x0 : 0 ≤ x) (x1 : x < 1024) (y0 : 0 ≤ y) (y1 : y < 1024) : RepM (upZ K (32 * y + x / 32) (K (32 * y + x / 32) ^^^ (iZ 1 <<< (iZ (x % 32) &&& 31)))) (tog pic x y) := by
  intro px py p0 p1 q0 q1
  show _ = if px = x ∧ py = y then !pic px py else pic px py
  by_cases e : 32 * py + px / 32 = 32 * y + x / 32
  · rw [e, upZ_s, fb_tog _ (by omega) (by omega) (by omega) (by omega), ← e, h px py p0 p1 q0 q1]
    by_cases e2 : px % 32 = x % 32
    · rw [if_pos e2, if_pos (by omega)]
    · rw [if_neg e2, if_neg (by omega)]
  · rw [upZ_n _ _ e, if_neg (by omega)]; exact h px py p0 p1 q0 q1
theorem rm_0 {K : Int → Int32} (h : ∀ k : Int, 0 ≤ k → k < 32768 → K k = iZ 0) : RepM K (fun _ _ => false) := by
  intro x y x0 x1 y0 y1
  rw [h _ (by omega) (by omega)]
  unfold fbit
  rw [show (iZ 0).toBitVec = 0#32 from rfl, BitVec.getLsbD_zero]
theorem wr_byte (v : Int64) {k : Int} (k0 : 0 ≤ k) (k1 : k < 8) : ((v >>> ((iZ (8 * k)).toInt64 &&& 63)) &&& lZ 255).toInt32 = iZ (bOf v k) := by
  apply Int32.toBitVec_inj.mp
  apply BitVec.eq_of_getLsbD_eq
  intro i hi
  show (BitVec.signExtend 32 ((v >>> ((iZ (8 * k)).toInt64 &&& 63)) &&& lZ 255).toBitVec).getLsbD i = _
  rw [BitVec.getLsbD_signExtend, Int64.toBitVec_and, BitVec.getLsbD_and, Int64.toBitVec_shiftRight, iZ_nI (by omega), wb_c _ (by omega), wb_tb, wb_sm _ (by omega), BitVec.sshiftRight_eq', BitVec.toNat_ofNat, Nat.mod_eq_of_lt (by omega), BitVec.getLsbD_sshiftRight]
  have b := bOf_in v k
  rw [iZ_nI b.1, ← BitVec.testBit_toNat (nI (bOf v k).toNat).toBitVec, pk_tn (by omega)]
  unfold bOf
  rw [Int.toNat_natCast, show (256 : Nat) = 2 ^ 8 from rfl, Nat.testBit_mod_two_pow, Nat.testBit_div_two_pow]
  have e1 : ∀ m, m < 32 → (lZ 255).toBitVec.getLsbD m = decide (m < 8) := by decide +kernel
  rw [e1 i hi]
  by_cases q : i < 8
  · have : (8 * k).toNat + i < 64 := by omega
    rw [BitVec.testBit_toNat]
    simp [hi, q, show i + (8 * k).toNat < 64 by omega, show ¬ 64 ≤ i by omega, show i < 64 by omega, Nat.add_comm]
  · simp [q, show ¬ 64 ≤ i by omega, show i < 64 by omega]
theorem rt_step {K : Int → Int32} {dr : Int → Int} {v : Int64} {n k : Int} (hn : 0 ≤ n) (k0 : 0 ≤ k) (k1 : k < 8) (h : RepT K (n + k) (fun j => if j < n then dr j else bOf v (j - n))) :
    RepT (upZ K (n + k) (((v >>> ((iZ (8 * k)).toInt64 &&& 63)) &&& lZ 255).toInt32)) (n + k + 1) (fun j => if j < n then dr j else bOf v (j - n)) := by
  intro j j1 j2
  by_cases e : j = n + k
  · subst e
    rw [upZ_s]
    show _ = iZ (if n + k < n then _ else _) ∧ 0 ≤ (if n + k < n then _ else _) ∧ (if n + k < n then _ else _) ≤ 255
    rw [if_neg (by omega), show n + k - n = k by omega]
    exact ⟨wr_byte v k0 k1, bOf_in v k⟩
  · rw [upZ_n _ _ e]
    exact h j j1 (by omega)
noncomputable def ovD (u v w h : Int) : Bool := @decide (ovP u v w h) (Classical.propDecidable _)
theorem ovD_t {u v w h : Int} (q : ovP u v w h) : ovD u v w h = true := @decide_eq_true _ (Classical.propDecidable _) q
theorem ovD_f {u v w h : Int} (q : ¬ ovP u v w h) : ovD u v w h = false := @decide_eq_false _ (Classical.propDecidable _) q
theorem ovD_i {u v w h : Int} (q : ovD u v w h = true) : ovP u v w h := @of_decide_eq_true _ (Classical.propDecidable _) q
theorem ovD_n {u v w h : Int} (q : ovD u v w h = false) : ¬ ovP u v w h := @of_decide_eq_false _ (Classical.propDecidable _) q
theorem elD_t {x y bw bh t px py : Int} (q : elB x y bw bh t px py) : elD x y bw bh t px py = true := @decide_eq_true _ (Classical.propDecidable _) q
theorem elD_f {x y bw bh t px py : Int} (q : ¬ elB x y bw bh t px py) : elD x y bw bh t px py = false := @decide_eq_false _ (Classical.propDecidable _) q
theorem lnD_t {a b c d t px py : Int} (q : lnB (c - a) (d - b) t (px - a) (py - b)) : lnD a b c d t px py = true := @decide_eq_true _ (Classical.propDecidable _) q
theorem lnD_f {a b c d t px py : Int} (q : ¬ lnB (c - a) (d - b) t (px - a) (py - b)) : lnD a b c d t px py = false := @decide_eq_false _ (Classical.propDecidable _) q
theorem ln_1 {dx dy t ex ey : Int} (h : dx * ex + dy * ey ≤ 0) : lnB dx dy t ex ey ↔ 4 * (ex * ex + ey * ey) ≤ t * t := by unfold lnB; rw [if_pos h]
theorem ln_2 {dx dy t ex ey : Int} (h : ¬ dx * ex + dy * ey ≤ 0) (h2 : dx * ex + dy * ey ≥ dx * dx + dy * dy) : lnB dx dy t ex ey ↔ 4 * ((ex - dx) * (ex - dx) + (ey - dy) * (ey - dy)) ≤ t * t := by unfold lnB; rw [if_neg h, if_pos h2]
theorem ln_3 {dx dy t ex ey : Int} (h : ¬ dx * ex + dy * ey ≤ 0) (h2 : ¬ dx * ex + dy * ey ≥ dx * dx + dy * dy) : lnB dx dy t ex ey ↔ 4 * ((dx * ey - dy * ex) * (dx * ey - dy * ex)) ≤ t * t * (dx * dx + dy * dy) := by unfold lnB; rw [if_neg h, if_neg h2]
theorem pc_in {fa n r c : Int} (a1 : 1 ≤ fa) (c0 : 0 ≤ c) (c1 : c < fa) (r0 : 0 ≤ r) (r1 : r < n / ((fa + 7) / 8)) (n0 : 0 ≤ n) : 0 ≤ 8 * ((fa + 7) / 8) * r + c ∧ 8 * ((fa + 7) / 8) * r + c < 8 * n := by
  obtain ⟨B, hB⟩ : ∃ B, B = (fa + 7) / 8 := ⟨_, rfl⟩
  rw [← hB] at r1 ⊢
  have b1 : 1 ≤ B := by omega
  have b2 : fa ≤ 8 * B := by omega
  have e1 : B * (n / B) ≤ n := Int.mul_ediv_self_le (by omega)
  have e2 : B * (r + 1) ≤ B * (n / B) := Int.mul_le_mul_of_nonneg_left (by omega) (by omega)
  have e3 : 0 ≤ B * r := Int.mul_nonneg (by omega) r0
  rw [Int.mul_add, Int.mul_one] at e2
  rw [Int.mul_assoc]
  omega
theorem sq_in {fa n r c : Int} (a1 : 1 ≤ fa) (c0 : 0 ≤ c) (c1 : c < fa) (r0 : 0 ≤ r) (r1 : r < fa) (h : fa * fa ≤ 8 * n) : 0 ≤ fa * r + c ∧ fa * r + c < 8 * n := by
  have e2 : fa * (r + 1) ≤ fa * fa := Int.mul_le_mul_of_nonneg_left (by omega) (by omega)
  have e3 : 0 ≤ fa * r := Int.mul_nonneg (by omega) r0
  rw [Int.mul_add, Int.mul_one] at e2
  omega
theorem alg_in {q x y px py : Int} (x1 : -4096 ≤ x) (x2 : x ≤ 4096) (y1 : -4096 ≤ y) (y2 : y ≤ 4096) (p1 : 0 ≤ px) (p2 : px ≤ 1023) (r1 : 0 ≤ py) (r2 : py ≤ 1023) : -5119 ≤ alg q x y px py ∧ alg q x y px py ≤ 5119 ∧ -5119 ≤ acr q x y px py ∧ acr q x y px py ≤ 5119 := by
  unfold alg acr; omega
theorem d_Mo_thrown_0 : decode c_yMo_thrown 0 = .ok (.aload_n 0, 1) := by decide +kernel
theorem d_Mo_thrown_1 : decode c_yMo_thrown 1 = .ok (.getfield 37, 3) := by decide +kernel
theorem d_Mo_thrown_4 : decode c_yMo_thrown 4 = .ok (.ireturn, 1) := by decide +kernel
set_option maxHeartbeats 4000000 in
set_option maxRecDepth 100000 in
theorem c_Model_thrown (l : Launch) (dC : Nat → ClassId) (dI : Nat → Nat → Nat) (hm zd zb zt zs zc zo : Nat) (tw w h mn n fx fy fa fb fc qr fo : Int)  : Met l y_Mo_thrown w_Mo_thrown ({ frames := 0, cells := 0, slots := 0, locals := 0 }) (va_Pc [.ref hm] (zPr (dC, dI) vwCl [(hm, .inr (6, [.int (iZ tw), .int (iZ w), .int (iZ h), .int (iZ mn), .ref zd, .ref zb, .ref zt, .int (iZ n), .ref zs, .ref zc, .int (iZ fx), .int (iZ fy), .int (iZ fa), .int (iZ fb), .int (iZ fc), .int (iZ qr), .int (iZ fo), .ref zo]))] [])) (vp_Si (fun r => r = iZ tw)) 0 0 (fun _ => False) := by
  refine Met.ofW (cc := c_yMo_thrown) (maxL := 1) (ret := (some .int)) (by decide) rfl ?_
  intro p e s m args below meth c s₁ B hml hv
  obtain ⟨rfl, hP, hK⟩ := hv
  have hx := B.exec
  have hb := B.bytes
  have hr := B.returns
  have hts0 := atoms_spec (ws := w_Mo_thrown) B.pre
  have hts : ∀ w ∈ gT, w.before _ s = true := fun w h => hts0 w (List.mem_cons_of_mem _ h)
  have hown : s.vm.findClass R_Mo = some m.cls := findClass_of_methodNamed B.named
  have hlocks := B.notSynchronized
  have hl := lv_entry ([.ref hm]) (n := 1) (Nat.le_of_ble_eq_true rfl)
  rw [lg_entry_eq]
  generalize (lg_sl ([.ref hm]) ++ List.replicate (1 - (lg_sl ([.ref hm])).length) Slot.unset).toArray = ls at hl ⊢
  have hl : lv_has ls 1 [(0, .ref hm)] := hl
  refine lv_aload_n hx hb d_Mo_thrown_0 rfl (lv_at hl 0 rfl) ?_
  refine va_get (D := (dC, dI)) (ci := 6) (v := .int (iZ tw)) (C := R_Mo) (T := T_Mo) (N := 18) hx hb hts wi_Mo hown hK hP 0 rfl rfl 0 (by decide) (hts _ t_684) (fun _ h9 => h9) rfl d_Mo_thrown_1 ?_
  exact W.iret hx hb hr (fun t ht hW => ⟨_, rfl, rfl, ht⟩) (fun q h => nomatch h) d_Mo_thrown_4
theorem d_Mo_isOn_0 : decode c_yMo_isOn 0 = .ok (.iload_n 1, 1) := by decide +kernel
theorem d_Mo_isOn_1 : decode c_yMo_isOn 1 = .ok (.ifCond .lt 27, 3) := by decide +kernel
theorem d_Mo_isOn_4 : decode c_yMo_isOn 4 = .ok (.iload_n 1, 1) := by decide +kernel
theorem d_Mo_isOn_5 : decode c_yMo_isOn 5 = .ok (.aload_n 0, 1) := by decide +kernel
theorem d_Mo_isOn_6 : decode c_yMo_isOn 6 = .ok (.getfield 7, 3) := by decide +kernel
theorem d_Mo_isOn_9 : decode c_yMo_isOn 9 = .ok (.if_icmp .ge 19, 3) := by decide +kernel
theorem d_Mo_isOn_12 : decode c_yMo_isOn 12 = .ok (.iload_n 2, 1) := by decide +kernel
theorem d_Mo_isOn_13 : decode c_yMo_isOn 13 = .ok (.ifCond .lt 15, 3) := by decide +kernel
theorem d_Mo_isOn_16 : decode c_yMo_isOn 16 = .ok (.iload_n 2, 1) := by decide +kernel
theorem d_Mo_isOn_17 : decode c_yMo_isOn 17 = .ok (.aload_n 0, 1) := by decide +kernel
theorem d_Mo_isOn_18 : decode c_yMo_isOn 18 = .ok (.getfield 13, 3) := by decide +kernel
theorem d_Mo_isOn_21 : decode c_yMo_isOn 21 = .ok (.if_icmp .ge 7, 3) := by decide +kernel
theorem d_Mo_isOn_24 : decode c_yMo_isOn 24 = .ok (.iconst 1, 1) := by decide +kernel
theorem d_Mo_isOn_25 : decode c_yMo_isOn 25 = .ok (.goto 4, 3) := by decide +kernel
theorem d_Mo_isOn_28 : decode c_yMo_isOn 28 = .ok (.iconst 0, 1) := by decide +kernel
theorem d_Mo_isOn_29 : decode c_yMo_isOn 29 = .ok (.ireturn, 1) := by decide +kernel
set_option maxHeartbeats 4000000 in
set_option maxRecDepth 100000 in
theorem c_Model_isOn (l : Launch) (dC : Nat → ClassId) (dI : Nat → Nat → Nat) (hm zd zb zt zs zc zo : Nat) (tw w h mn n fx fy fa fb fc qr fo x y : Int) (w1 : 1 ≤ w) (w2 : w ≤ 1024) (h1 : 1 ≤ h) (h2 : h ≤ 1024) (x1 : -2147483648 ≤ x) (y1 : -2147483648 ≤ y) (x2 : x ≤ 2147483647) (y2 : y ≤ 2147483647) : Met l y_Mo_isOn w_Mo_isOn ({ frames := 0, cells := 0, slots := 0, locals := 0 }) (va_Pc [.ref hm, .int (iZ x), .int (iZ y)] (zPr (dC, dI) vwCl [(hm, .inr (6, [.int (iZ tw), .int (iZ w), .int (iZ h), .int (iZ mn), .ref zd, .ref zb, .ref zt, .int (iZ n), .ref zs, .ref zc, .int (iZ fx), .int (iZ fy), .int (iZ fa), .int (iZ fb), .int (iZ fc), .int (iZ qr), .int (iZ fo), .ref zo]))] [])) (vp_Si (fun r => r = bI (onB w h x y))) 0 0 (fun _ => False) := by
  refine Met.ofW (cc := c_yMo_isOn) (maxL := 3) (ret := (some .boolean)) (by decide) rfl ?_
  intro p e s m args below meth c s₁ B hml hv
  obtain ⟨rfl, hP, hK⟩ := hv
  have hx := B.exec
  have hb := B.bytes
  have hr := B.returns
  have hts0 := atoms_spec (ws := w_Mo_isOn) B.pre
  have hts : ∀ w ∈ gT, w.before _ s = true := fun w h => hts0 w (List.mem_cons_of_mem _ h)
  have hown : s.vm.findClass R_Mo = some m.cls := findClass_of_methodNamed B.named
  have hlocks := B.notSynchronized
  have hl := lv_entry ([.ref hm, .int (iZ x), .int (iZ y)]) (n := 3) (Nat.le_of_ble_eq_true rfl)
  rw [lg_entry_eq]
  generalize (lg_sl ([.ref hm, .int (iZ x), .int (iZ y)]) ++ List.replicate (3 - (lg_sl ([.ref hm, .int (iZ x), .int (iZ y)])).length) Slot.unset).toArray = ls at hl ⊢
  have hl : lv_has ls 3 [(0, .ref hm), (1, .int (iZ x)), (2, .int (iZ y))] := hl
  refine lv_iload_n hx hb d_Mo_isOn_0 rfl (lv_at hl 1 rfl) ?_
  refine zi_if_lt (tgt := 28) hx hb d_Mo_isOn_1 (by decide) (by omega) (by omega) (fun c_1 => ?_) (fun c_1 => ?_)
  · refine lv_iconst (v := iZ (0)) hx hb d_Mo_isOn_28 rfl ?_
    exact W.zret (ty := .boolean) hx hb hr (by decide) (fun t ht hW => ⟨_, rfl, by rw [show onB w h x y = false from decide_eq_false (by omega)]; rfl, ht⟩) (fun q h => nomatch h) d_Mo_isOn_29
  · refine lv_iload_n hx hb d_Mo_isOn_4 rfl (lv_at hl 1 rfl) ?_
    refine lv_aload_n hx hb d_Mo_isOn_5 rfl (lv_at hl 0 rfl) ?_
    refine va_get (D := (dC, dI)) (ci := 6) (v := .int (iZ w)) (C := R_Mo) (T := T_Mo) (N := 18) hx hb hts wi_Mo hown hK hP 0 rfl rfl 1 (by decide) (hts _ t_685) (fun _ h9 => h9) rfl d_Mo_isOn_6 ?_
    refine zi_ge (tgt := 28) hx hb d_Mo_isOn_9 (by decide) (by omega) (by omega) (by omega) (by omega) (fun c_9 => ?_) (fun c_9 => ?_)
    · refine lv_iconst (v := iZ (0)) hx hb d_Mo_isOn_28 rfl ?_
      exact W.zret (ty := .boolean) hx hb hr (by decide) (fun t ht hW => ⟨_, rfl, by rw [show onB w h x y = false from decide_eq_false (by omega)]; rfl, ht⟩) (fun q h => nomatch h) d_Mo_isOn_29
    · refine lv_iload_n hx hb d_Mo_isOn_12 rfl (lv_at hl 2 rfl) ?_
      refine zi_if_lt (tgt := 28) hx hb d_Mo_isOn_13 (by decide) (by omega) (by omega) (fun c_13 => ?_) (fun c_13 => ?_)
      · refine lv_iconst (v := iZ (0)) hx hb d_Mo_isOn_28 rfl ?_
        exact W.zret (ty := .boolean) hx hb hr (by decide) (fun t ht hW => ⟨_, rfl, by rw [show onB w h x y = false from decide_eq_false (by omega)]; rfl, ht⟩) (fun q h => nomatch h) d_Mo_isOn_29
      · refine lv_iload_n hx hb d_Mo_isOn_16 rfl (lv_at hl 2 rfl) ?_
        refine lv_aload_n hx hb d_Mo_isOn_17 rfl (lv_at hl 0 rfl) ?_
        refine va_get (D := (dC, dI)) (ci := 6) (v := .int (iZ h)) (C := R_Mo) (T := T_Mo) (N := 18) hx hb hts wi_Mo hown hK hP 0 rfl rfl 2 (by decide) (hts _ t_686) (fun _ h9 => h9) rfl d_Mo_isOn_18 ?_
        refine zi_ge (tgt := 28) hx hb d_Mo_isOn_21 (by decide) (by omega) (by omega) (by omega) (by omega) (fun c_21 => ?_) (fun c_21 => ?_)
        · refine lv_iconst (v := iZ (0)) hx hb d_Mo_isOn_28 rfl ?_
          exact W.zret (ty := .boolean) hx hb hr (by decide) (fun t ht hW => ⟨_, rfl, by rw [show onB w h x y = false from decide_eq_false (by omega)]; rfl, ht⟩) (fun q h => nomatch h) d_Mo_isOn_29
        · refine lv_iconst (v := iZ (1)) hx hb d_Mo_isOn_24 rfl ?_
          refine lv_goto (tgt := 29) hx hb d_Mo_isOn_25 (by decide) ?_
          exact W.zret (ty := .boolean) hx hb hr (by decide) (fun t ht hW => ⟨_, rfl, by rw [show onB w h x y = true from decide_eq_true (by omega)]; rfl, ht⟩) (fun q h => nomatch h) d_Mo_isOn_29
theorem d_Mo_isDark_0 : decode c_yMo_isDark 0 = .ok (.aload_n 0, 1) := by decide +kernel
theorem d_Mo_isDark_1 : decode c_yMo_isDark 1 = .ok (.iload_n 1, 1) := by decide +kernel
theorem d_Mo_isDark_2 : decode c_yMo_isDark 2 = .ok (.iload_n 2, 1) := by decide +kernel
theorem d_Mo_isDark_3 : decode c_yMo_isDark 3 = .ok (.invokevirtual 40, 3) := by decide +kernel
theorem d_Mo_isDark_6 : decode c_yMo_isDark 6 = .ok (.ifCond .eq 32, 3) := by decide +kernel
theorem d_Mo_isDark_9 : decode c_yMo_isDark 9 = .ok (.aload_n 0, 1) := by decide +kernel
theorem d_Mo_isDark_10 : decode c_yMo_isDark 10 = .ok (.getfield 17, 3) := by decide +kernel
theorem d_Mo_isDark_13 : decode c_yMo_isDark 13 = .ok (.bipush 32, 2) := by decide +kernel
theorem d_Mo_isDark_15 : decode c_yMo_isDark 15 = .ok (.iload_n 2, 1) := by decide +kernel
theorem d_Mo_isDark_16 : decode c_yMo_isDark 16 = .ok (.imul, 1) := by decide +kernel
theorem d_Mo_isDark_17 : decode c_yMo_isDark 17 = .ok (.iload_n 1, 1) := by decide +kernel
theorem d_Mo_isDark_18 : decode c_yMo_isDark 18 = .ok (.bipush 32, 2) := by decide +kernel
theorem d_Mo_isDark_20 : decode c_yMo_isDark 20 = .ok (.idiv, 1) := by decide +kernel
theorem d_Mo_isDark_21 : decode c_yMo_isDark 21 = .ok (.iadd, 1) := by decide +kernel
theorem d_Mo_isDark_22 : decode c_yMo_isDark 22 = .ok (.iaload, 1) := by decide +kernel
theorem d_Mo_isDark_23 : decode c_yMo_isDark 23 = .ok (.iload_n 1, 1) := by decide +kernel
theorem d_Mo_isDark_24 : decode c_yMo_isDark 24 = .ok (.bipush 32, 2) := by decide +kernel
theorem d_Mo_isDark_26 : decode c_yMo_isDark 26 = .ok (.irem, 1) := by decide +kernel
theorem d_Mo_isDark_27 : decode c_yMo_isDark 27 = .ok (.ishr, 1) := by decide +kernel
theorem d_Mo_isDark_28 : decode c_yMo_isDark 28 = .ok (.iconst 1, 1) := by decide +kernel
theorem d_Mo_isDark_29 : decode c_yMo_isDark 29 = .ok (.iand, 1) := by decide +kernel
theorem d_Mo_isDark_30 : decode c_yMo_isDark 30 = .ok (.iconst 1, 1) := by decide +kernel
theorem d_Mo_isDark_31 : decode c_yMo_isDark 31 = .ok (.if_icmp .ne 7, 3) := by decide +kernel
theorem d_Mo_isDark_34 : decode c_yMo_isDark 34 = .ok (.iconst 1, 1) := by decide +kernel
theorem d_Mo_isDark_35 : decode c_yMo_isDark 35 = .ok (.goto 4, 3) := by decide +kernel
theorem d_Mo_isDark_38 : decode c_yMo_isDark 38 = .ok (.iconst 0, 1) := by decide +kernel
theorem d_Mo_isDark_39 : decode c_yMo_isDark 39 = .ok (.ireturn, 1) := by decide +kernel
set_option maxHeartbeats 4000000 in
set_option maxRecDepth 100000 in
theorem c_Model_isDark (l : Launch) (dC : Nat → ClassId) (dI : Nat → Nat → Nat) (hm zd zb zt zs zc zo : Nat) (tw w h mn n fx fy fa fb fc qr fo : Int) (cI : ClassId) (Dk : Int → Int32) (pic : Int → Int → Bool) (x y : Int) (w1 : 1 ≤ w) (w2 : w ≤ 1024) (h1 : 1 ≤ h) (h2 : h ≤ 1024) (hM : RepM Dk pic) (hO : Off w h pic) (x1 : -2147483648 ≤ x) (y1 : -2147483648 ≤ y) (x2 : x ≤ 2147483647) (y2 : y ≤ 2147483647) : Met l y_Mo_isDark w_Mo_isDark ({ frames := 1, cells := 0, slots := 0, locals := 22 }) (va_Pc [.ref hm, .int (iZ x), .int (iZ y)] (zPr (dC, dI) vwCl [(hm, .inr (6, [.int (iZ tw), .int (iZ w), .int (iZ h), .int (iZ mn), .ref zd, .ref zb, .ref zt, .int (iZ n), .ref zs, .ref zc, .int (iZ fx), .int (iZ fy), .int (iZ fa), .int (iZ fb), .int (iZ fc), .int (iZ qr), .int (iZ fo), .ref zo])), (zd, .inl (cI, 32768, .inl (aI Dk)))] [(cI, .int)])) (vp_Si (fun r => r = bI (pic x y))) 0 0 (fun _ => False) := by
  refine Met.ofW (cc := c_yMo_isDark) (maxL := 3) (ret := (some .boolean)) (by decide) rfl ?_
  intro p e s m args below meth c s₁ B hml hv
  obtain ⟨rfl, hP, hK⟩ := hv
  have hx := B.exec
  have hb := B.bytes
  have hr := B.returns
  have hts0 := atoms_spec (ws := w_Mo_isDark) B.pre
  have hts : ∀ w ∈ gT, w.before _ s = true := fun w h => hts0 w (List.mem_cons_of_mem _ h)
  have hown : s.vm.findClass R_Mo = some m.cls := findClass_of_methodNamed B.named
  have hlocks := B.notSynchronized
  have hl := lv_entry ([.ref hm, .int (iZ x), .int (iZ y)]) (n := 3) (Nat.le_of_ble_eq_true rfl)
  rw [lg_entry_eq]
  generalize (lg_sl ([.ref hm, .int (iZ x), .int (iZ y)]) ++ List.replicate (3 - (lg_sl ([.ref hm, .int (iZ x), .int (iZ y)])).length) Slot.unset).toArray = ls at hl ⊢
  have hl : lv_has ls 3 [(0, .ref hm), (1, .int (iZ x)), (2, .int (iZ y))] := hl
  refine lv_aload_n hx hb d_Mo_isDark_0 rfl (lv_at hl 0 rfl) ?_
  refine lv_iload_n hx hb d_Mo_isDark_1 rfl (lv_at hl 1 rfl) ?_
  refine lv_iload_n hx hb d_Mo_isDark_2 rfl (lv_at hl 2 rfl) ?_
  refine vp_callSi (va_runV (As := [.int (iZ x), .int (iZ y)]) (rest := []) ⟨hx, hb, hml, hown, hts⟩ (c_Model_isOn l dC dI hm zd zb zt zs zc zo tw w h mn n fx fy fa fb fc qr fo x y (by first | omega | assumption) (by first | omega | assumption) (by first | omega | assumption) (by first | omega | assumption) (by first | omega | assumption) (by first | omega | assumption) (by first | omega | assumption) (by first | omega | assumption)) (cwV 2 hts (gV t_831 t_833 s_28 t_6 t_834) rfl rfl rfl (by decide +kernel) ⟨Nat.le_of_ble_eq_true rfl, Nat.le_of_ble_eq_true rfl⟩) ⟨zPr_blind, va_recv hK hP (ci := 6) (q0 := 0) rfl rfl, zPr_pre hP hK [0] [] rfl rfl⟩ rfl rfl hl.1 rfl (lv_room (Nat.le_of_ble_eq_true rfl)) d_Mo_isDark_3 ⟨Nat.le_of_ble_eq_true rfl, Nat.le_of_ble_eq_true rfl⟩).run (fun r_3 q_3 => ?_)
  obtain rfl := q_3
  refine zb_if_eq (tgt := 38) hx hb d_Mo_isDark_6 (by decide) (fun c_6 => ?_) (fun c_6 => ?_)
  · have c_6 := of_decide_eq_false c_6
    refine lv_iconst (v := iZ (0)) hx hb d_Mo_isDark_38 rfl ?_
    exact W.zret (ty := .boolean) hx hb hr (by decide) (fun t ht hW => ⟨_, rfl, by rw [hO x y (decide_eq_false c_6)]; rfl, ht⟩) (fun q h => nomatch h) d_Mo_isDark_39
  · have c_6 := of_decide_eq_true c_6
    refine lv_aload_n hx hb d_Mo_isDark_9 rfl (lv_at hl 0 rfl) ?_
    refine va_get (D := (dC, dI)) (ci := 6) (v := .ref zd) (C := R_Mo) (T := T_Mo) (N := 18) hx hb hts wi_Mo hown hK hP 0 rfl rfl 4 (by decide) (hts _ t_688) (fun _ h9 => h9) rfl d_Mo_isDark_10 ?_
    refine lv_bipush (v := iZ (32)) hx hb d_Mo_isDark_13 (by decide) ?_
    refine lv_iload_n hx hb d_Mo_isDark_15 rfl (lv_at hl 2 rfl) ?_
    refine zi_mul hx hb d_Mo_isDark_16 ?_
    refine lv_iload_n hx hb d_Mo_isDark_17 rfl (lv_at hl 1 rfl) ?_
    refine lv_bipush (v := iZ (32)) hx hb d_Mo_isDark_18 (by decide) ?_
    refine zi_div hx hb d_Mo_isDark_20 (by omega) (by omega) (by omega) (by omega) ?_
    refine zi_add hx hb d_Mo_isDark_21 ?_
    refine z_iald hx hb hK hP 1 0 rfl rfl (by omega) (by omega) (by omega) d_Mo_isDark_22 ?_
    refine lv_iload_n hx hb d_Mo_isDark_23 rfl (lv_at hl 1 rfl) ?_
    refine lv_bipush (v := iZ (32)) hx hb d_Mo_isDark_24 (by decide) ?_
    refine zi_rem hx hb d_Mo_isDark_26 (by omega) (by omega) (by omega) (by omega) ?_
    refine lv_ishr hx hb d_Mo_isDark_27 ?_
    refine lv_iconst (v := iZ (1)) hx hb d_Mo_isDark_28 rfl ?_
    refine lv_iand hx hb d_Mo_isDark_29 ?_
    have d9 := fb_shr (Dk (32 * y + x / 32)) (k := x % 32) (by omega) (by omega)
    rw [hM x y (by omega) (by omega) (by omega) (by omega)] at d9
    refine lv_iconst (v := iZ (1)) hx hb d_Mo_isDark_30 rfl ?_
    refine lv_icmp_ne (tgt := 38) hx hb d_Mo_isDark_31 (by decide) (fun c_31 => ?_) (fun c_31 => ?_)
    · refine lv_iconst (v := iZ (0)) hx hb d_Mo_isDark_38 rfl ?_
      exact W.zret (ty := .boolean) hx hb hr (by decide) (fun t ht hW => ⟨_, rfl, by rw [show pic x y = false from Bool.eq_false_iff.mpr (fun q => c_31 (d9.mpr q))]; rfl, ht⟩) (fun q h => nomatch h) d_Mo_isDark_39
    · refine lv_iconst (v := iZ (1)) hx hb d_Mo_isDark_34 rfl ?_
      refine lv_goto (tgt := 39) hx hb d_Mo_isDark_35 (by decide) ?_
      exact W.zret (ty := .boolean) hx hb hr (by decide) (fun t ht hW => ⟨_, rfl, by rw [d9.mp c_31]; rfl, ht⟩) (fun q h => nomatch h) d_Mo_isDark_39
theorem d_Mo_other_0 : decode c_yMo_other 0 = .ok (.aload_n 0, 1) := by decide +kernel
theorem d_Mo_other_1 : decode c_yMo_other 1 = .ok (.getfield 17, 3) := by decide +kernel
theorem d_Mo_other_4 : decode c_yMo_other 4 = .ok (.bipush 32, 2) := by decide +kernel
theorem d_Mo_other_6 : decode c_yMo_other 6 = .ok (.iload_n 2, 1) := by decide +kernel
theorem d_Mo_other_7 : decode c_yMo_other 7 = .ok (.imul, 1) := by decide +kernel
theorem d_Mo_other_8 : decode c_yMo_other 8 = .ok (.iload_n 1, 1) := by decide +kernel
theorem d_Mo_other_9 : decode c_yMo_other 9 = .ok (.bipush 32, 2) := by decide +kernel
theorem d_Mo_other_11 : decode c_yMo_other 11 = .ok (.idiv, 1) := by decide +kernel
theorem d_Mo_other_12 : decode c_yMo_other 12 = .ok (.iadd, 1) := by decide +kernel
theorem d_Mo_other_13 : decode c_yMo_other 13 = .ok (.aload_n 0, 1) := by decide +kernel
theorem d_Mo_other_14 : decode c_yMo_other 14 = .ok (.getfield 17, 3) := by decide +kernel
theorem d_Mo_other_17 : decode c_yMo_other 17 = .ok (.bipush 32, 2) := by decide +kernel
theorem d_Mo_other_19 : decode c_yMo_other 19 = .ok (.iload_n 2, 1) := by decide +kernel
theorem d_Mo_other_20 : decode c_yMo_other 20 = .ok (.imul, 1) := by decide +kernel
theorem d_Mo_other_21 : decode c_yMo_other 21 = .ok (.iload_n 1, 1) := by decide +kernel
theorem d_Mo_other_22 : decode c_yMo_other 22 = .ok (.bipush 32, 2) := by decide +kernel
theorem d_Mo_other_24 : decode c_yMo_other 24 = .ok (.idiv, 1) := by decide +kernel
theorem d_Mo_other_25 : decode c_yMo_other 25 = .ok (.iadd, 1) := by decide +kernel
theorem d_Mo_other_26 : decode c_yMo_other 26 = .ok (.iaload, 1) := by decide +kernel
theorem d_Mo_other_27 : decode c_yMo_other 27 = .ok (.iconst 1, 1) := by decide +kernel
theorem d_Mo_other_28 : decode c_yMo_other 28 = .ok (.iload_n 1, 1) := by decide +kernel
theorem d_Mo_other_29 : decode c_yMo_other 29 = .ok (.bipush 32, 2) := by decide +kernel
theorem d_Mo_other_31 : decode c_yMo_other 31 = .ok (.irem, 1) := by decide +kernel
theorem d_Mo_other_32 : decode c_yMo_other 32 = .ok (.ishl, 1) := by decide +kernel
theorem d_Mo_other_33 : decode c_yMo_other 33 = .ok (.ixor, 1) := by decide +kernel
theorem d_Mo_other_34 : decode c_yMo_other 34 = .ok (.iastore, 1) := by decide +kernel
theorem d_Mo_other_35 : decode c_yMo_other 35 = .ok (.return_, 1) := by decide +kernel
set_option maxHeartbeats 4000000 in
set_option maxRecDepth 100000 in
theorem c_Model_other (l : Launch) (dC : Nat → ClassId) (dI : Nat → Nat → Nat) (hm zd zb zt zs zc zo : Nat) (tw w h mn n fx fy fa fb fc qr fo : Int) (cI : ClassId) (Dk : Int → Int32) (pic : Int → Int → Bool) (x y : Int) (sz : Nat) (hM : RepM Dk pic) (x1 : 0 ≤ x) (x2 : x < 1024) (y1 : 0 ≤ y) (y2 : y < 1024) : Met l y_Mo_other w_Mo_other ({ frames := 0, cells := 0, slots := 0, locals := 0 }) (va_Pc [.ref hm, .int (iZ x), .int (iZ y)] (zPm (dC, dI) vwCl [(hm, .inr (6, [.int (iZ tw), .int (iZ w), .int (iZ h), .int (iZ mn), .ref zd, .ref zb, .ref zt, .int (iZ n), .ref zs, .ref zc, .int (iZ fx), .int (iZ fy), .int (iZ fa), .int (iZ fb), .int (iZ fc), .int (iZ qr), .int (iZ fo), .ref zo])), (zd, .inl (cI, 32768, .inl (aI Dk)))] [(cI, .int)] sz)) (va_Qv (fun (u : Int → Int32) => RepM u (tog pic x y)) (fun u => zB (dC, dI) vwCl [(cI, .int)] (va_A [(hm, .inr (6, [.int (iZ tw), .int (iZ w), .int (iZ h), .int (iZ mn), .ref zd, .ref zb, .ref zt, .int (iZ n), .ref zs, .ref zc, .int (iZ fx), .int (iZ fy), .int (iZ fa), .int (iZ fb), .int (iZ fc), .int (iZ qr), .int (iZ fo), .ref zo])), (zd, .inl (cI, 32768, .inl (aI Dk)))] sz) [(hm, .inr (6, [.int (iZ tw), .int (iZ w), .int (iZ h), .int (iZ mn), .ref zd, .ref zb, .ref zt, .int (iZ n), .ref zs, .ref zc, .int (iZ fx), .int (iZ fy), .int (iZ fa), .int (iZ fb), .int (iZ fc), .int (iZ qr), .int (iZ fo), .ref zo])), (zd, .inl (cI, 32768, .inl (aI u)))]) (va_A [(hm, .inr (6, [.int (iZ tw), .int (iZ w), .int (iZ h), .int (iZ mn), .ref zd, .ref zb, .ref zt, .int (iZ n), .ref zs, .ref zc, .int (iZ fx), .int (iZ fy), .int (iZ fa), .int (iZ fb), .int (iZ fc), .int (iZ qr), .int (iZ fo), .ref zo])), (zd, .inl (cI, 32768, .inl (aI Dk)))] sz)) 0 0 (va_A [(hm, .inr (6, [.int (iZ tw), .int (iZ w), .int (iZ h), .int (iZ mn), .ref zd, .ref zb, .ref zt, .int (iZ n), .ref zs, .ref zc, .int (iZ fx), .int (iZ fy), .int (iZ fa), .int (iZ fb), .int (iZ fc), .int (iZ qr), .int (iZ fo), .ref zo])), (zd, .inl (cI, 32768, .inl (aI Dk)))] sz) := by
  refine Met.ofW (cc := c_yMo_other) (maxL := 3) (ret := none) (by decide) rfl ?_
  intro p e s m args below meth c s₁ B hml hv
  obtain ⟨rfl, hsz, hP, hK, hD0⟩ := hv
  have hx := B.exec
  have hb := B.bytes
  have hr := B.returns
  have hts0 := atoms_spec (ws := w_Mo_other) B.pre
  have hts : ∀ w ∈ gT, w.before _ s = true := fun w h => hts0 w (List.mem_cons_of_mem _ h)
  have hown : s.vm.findClass R_Mo = some m.cls := findClass_of_methodNamed B.named
  have hlocks := B.notSynchronized
  subst hsz
  have hD := hD0.self (sz := s.heap.size)
  generalize hAe : va_A [(hm, .inr (6, [.int (iZ tw), .int (iZ w), .int (iZ h), .int (iZ mn), .ref zd, .ref zb, .ref zt, .int (iZ n), .ref zs, .ref zc, .int (iZ fx), .int (iZ fy), .int (iZ fa), .int (iZ fb), .int (iZ fc), .int (iZ qr), .int (iZ fo), .ref zo])), (zd, .inl (cI, 32768, .inl (aI Dk)))] s.heap.size = A at hD ⊢
  have hA : ∀ q : Nat, s.heap.size ≤ q → A q := fun q h => by rw [← hAe]; exact Or.inr h
  obtain ⟨H, hH⟩ : ∃ H, s.heap = H := ⟨_, rfl⟩
  have hS : va_S A s.heap H [] := by rw [← hH]; exact va_S.rf
  rw [hH] at hP
  rw [hH]
  have hl := lv_entry ([.ref hm, .int (iZ x), .int (iZ y)]) (n := 3) (Nat.le_of_ble_eq_true rfl)
  rw [lg_entry_eq]
  generalize (lg_sl ([.ref hm, .int (iZ x), .int (iZ y)]) ++ List.replicate (3 - (lg_sl ([.ref hm, .int (iZ x), .int (iZ y)])).length) Slot.unset).toArray = ls at hl ⊢
  have hl : lv_has ls 3 [(0, .ref hm), (1, .int (iZ x)), (2, .int (iZ y))] := hl
  refine lv_aload_n hx hb d_Mo_other_0 rfl (lv_at hl 0 rfl) ?_
  refine va_get (D := (dC, dI)) (ci := 6) (v := .ref zd) (C := R_Mo) (T := T_Mo) (N := 18) hx hb hts wi_Mo hown hK hP 0 rfl rfl 4 (by decide) (hts _ t_688) (fun _ h9 => h9) rfl d_Mo_other_1 ?_
  refine lv_bipush (v := iZ (32)) hx hb d_Mo_other_4 (by decide) ?_
  refine lv_iload_n hx hb d_Mo_other_6 rfl (lv_at hl 2 rfl) ?_
  refine zi_mul hx hb d_Mo_other_7 ?_
  refine lv_iload_n hx hb d_Mo_other_8 rfl (lv_at hl 1 rfl) ?_
  refine lv_bipush (v := iZ (32)) hx hb d_Mo_other_9 (by decide) ?_
  refine zi_div hx hb d_Mo_other_11 (by omega) (by omega) (by omega) (by omega) ?_
  refine zi_add hx hb d_Mo_other_12 ?_
  refine lv_aload_n hx hb d_Mo_other_13 rfl (lv_at hl 0 rfl) ?_
  refine va_get (D := (dC, dI)) (ci := 6) (v := .ref zd) (C := R_Mo) (T := T_Mo) (N := 18) hx hb hts wi_Mo hown hK hP 0 rfl rfl 4 (by decide) (hts _ t_688) (fun _ h9 => h9) rfl d_Mo_other_14 ?_
  refine lv_bipush (v := iZ (32)) hx hb d_Mo_other_17 (by decide) ?_
  refine lv_iload_n hx hb d_Mo_other_19 rfl (lv_at hl 2 rfl) ?_
  refine zi_mul hx hb d_Mo_other_20 ?_
  refine lv_iload_n hx hb d_Mo_other_21 rfl (lv_at hl 1 rfl) ?_
  refine lv_bipush (v := iZ (32)) hx hb d_Mo_other_22 (by decide) ?_
  refine zi_div hx hb d_Mo_other_24 (by omega) (by omega) (by omega) (by omega) ?_
  refine zi_add hx hb d_Mo_other_25 ?_
  refine z_iald hx hb hK hP 1 0 rfl rfl (by omega) (by omega) (by omega) d_Mo_other_26 ?_
  refine lv_iconst (v := iZ (1)) hx hb d_Mo_other_27 rfl ?_
  refine lv_iload_n hx hb d_Mo_other_28 rfl (lv_at hl 1 rfl) ?_
  refine lv_bipush (v := iZ (32)) hx hb d_Mo_other_29 (by decide) ?_
  refine zi_rem hx hb d_Mo_other_31 (by omega) (by omega) (by omega) (by omega) ?_
  refine lv_ishl hx hb d_Mo_other_32 ?_
  refine lv_ixor hx hb d_Mo_other_33 ?_
  refine z_iast hx hb hK hP hD hS 1 0 rfl rfl (by omega) (by omega) (by omega) d_Mo_other_34 (fun H locs hP hD hS => ?_)
  have hP : va_P (dC, dI) vwCl [(hm, .inr (6, [.int (iZ tw), .int (iZ w), .int (iZ h), .int (iZ mn), .ref zd, .ref zb, .ref zt, .int (iZ n), .ref zs, .ref zc, .int (iZ fx), .int (iZ fy), .int (iZ fa), .int (iZ fb), .int (iZ fc), .int (iZ qr), .int (iZ fo), .ref zo])), (zd, .inl (cI, 32768, .inl (aI (upZ Dk ((32 * y) + (x / 32)) ((Dk ((32 * y) + (x / 32))) ^^^ ((iZ 1) <<< ((iZ (x % 32)) &&& 31)))))))] H := hP
  have hD : va_D A [(hm, .inr (6, [.int (iZ tw), .int (iZ w), .int (iZ h), .int (iZ mn), .ref zd, .ref zb, .ref zt, .int (iZ n), .ref zs, .ref zc, .int (iZ fx), .int (iZ fy), .int (iZ fa), .int (iZ fb), .int (iZ fc), .int (iZ qr), .int (iZ fo), .ref zo])), (zd, .inl (cI, 32768, .inl (aI (upZ Dk ((32 * y) + (x / 32)) ((Dk ((32 * y) + (x / 32))) ^^^ ((iZ 1) <<< ((iZ (x % 32)) &&& 31)))))))] := hD
  exact W.vret hx hb hr (fun t ht hW => ⟨⟨(upZ Dk ((32 * y) + (x / 32)) ((Dk ((32 * y) + (x / 32))) ^^^ ((iZ 1) <<< ((iZ (x % 32)) &&& 31)))), rfl, rm_tog hM x1 x2 y1 y2, by rw [ht]; exact hP, va_K.moved hW.alike hK, hD⟩, hS.F ht⟩) hS.2.2 d_Mo_other_35
theorem d_Mo_sheet_0 : decode c_yMo_sheet 0 = .ok (.aload_n 0, 1) := by decide +kernel
theorem d_Mo_sheet_1 : decode c_yMo_sheet 1 = .ok (.iload_n 1, 1) := by decide +kernel
theorem d_Mo_sheet_2 : decode c_yMo_sheet 2 = .ok (.iconst 1, 1) := by decide +kernel
theorem d_Mo_sheet_3 : decode c_yMo_sheet 3 = .ok (.if_icmp .lt 22, 3) := by decide +kernel
theorem d_Mo_sheet_6 : decode c_yMo_sheet 6 = .ok (.iload_n 1, 1) := by decide +kernel
theorem d_Mo_sheet_7 : decode c_yMo_sheet 7 = .ok (.sipush 1024, 3) := by decide +kernel
theorem d_Mo_sheet_10 : decode c_yMo_sheet 10 = .ok (.if_icmp .gt 15, 3) := by decide +kernel
theorem d_Mo_sheet_13 : decode c_yMo_sheet 13 = .ok (.iload_n 2, 1) := by decide +kernel
theorem d_Mo_sheet_14 : decode c_yMo_sheet 14 = .ok (.iconst 1, 1) := by decide +kernel
theorem d_Mo_sheet_15 : decode c_yMo_sheet 15 = .ok (.if_icmp .lt 10, 3) := by decide +kernel
theorem d_Mo_sheet_18 : decode c_yMo_sheet 18 = .ok (.iload_n 2, 1) := by decide +kernel
theorem d_Mo_sheet_19 : decode c_yMo_sheet 19 = .ok (.sipush 1024, 3) := by decide +kernel
theorem d_Mo_sheet_22 : decode c_yMo_sheet 22 = .ok (.if_icmp .le 7, 3) := by decide +kernel
theorem d_Mo_sheet_25 : decode c_yMo_sheet 25 = .ok (.iconst 1, 1) := by decide +kernel
theorem d_Mo_sheet_26 : decode c_yMo_sheet 26 = .ok (.goto 4, 3) := by decide +kernel
theorem d_Mo_sheet_29 : decode c_yMo_sheet 29 = .ok (.iconst 0, 1) := by decide +kernel
theorem d_Mo_sheet_30 : decode c_yMo_sheet 30 = .ok (.putfield 37, 3) := by decide +kernel
theorem d_Mo_sheet_33 : decode c_yMo_sheet 33 = .ok (.aload_n 0, 1) := by decide +kernel
theorem d_Mo_sheet_34 : decode c_yMo_sheet 34 = .ok (.getfield 37, 3) := by decide +kernel
theorem d_Mo_sheet_37 : decode c_yMo_sheet 37 = .ok (.ifCond .le 4, 3) := by decide +kernel
theorem d_Mo_sheet_40 : decode c_yMo_sheet 40 = .ok (.return_, 1) := by decide +kernel
theorem d_Mo_sheet_41 : decode c_yMo_sheet 41 = .ok (.aload_n 0, 1) := by decide +kernel
theorem d_Mo_sheet_42 : decode c_yMo_sheet 42 = .ok (.iload_n 1, 1) := by decide +kernel
theorem d_Mo_sheet_43 : decode c_yMo_sheet 43 = .ok (.putfield 7, 3) := by decide +kernel
theorem d_Mo_sheet_46 : decode c_yMo_sheet 46 = .ok (.aload_n 0, 1) := by decide +kernel
theorem d_Mo_sheet_47 : decode c_yMo_sheet 47 = .ok (.iload_n 2, 1) := by decide +kernel
theorem d_Mo_sheet_48 : decode c_yMo_sheet 48 = .ok (.putfield 13, 3) := by decide +kernel
theorem d_Mo_sheet_51 : decode c_yMo_sheet 51 = .ok (.iconst 0, 1) := by decide +kernel
theorem d_Mo_sheet_52 : decode c_yMo_sheet 52 = .ok (.istore_n 3, 1) := by decide +kernel
theorem d_Mo_sheet_53 : decode c_yMo_sheet 53 = .ok (.iload_n 3, 1) := by decide +kernel
theorem d_Mo_sheet_54 : decode c_yMo_sheet 54 = .ok (.ldc 16, 2) := by decide +kernel
theorem d_Mo_sheet_56 : decode c_yMo_sheet 56 = .ok (.if_icmp .ge 16, 3) := by decide +kernel
theorem d_Mo_sheet_59 : decode c_yMo_sheet 59 = .ok (.aload_n 0, 1) := by decide +kernel
theorem d_Mo_sheet_60 : decode c_yMo_sheet 60 = .ok (.getfield 17, 3) := by decide +kernel
theorem d_Mo_sheet_63 : decode c_yMo_sheet 63 = .ok (.iload_n 3, 1) := by decide +kernel
theorem d_Mo_sheet_64 : decode c_yMo_sheet 64 = .ok (.iconst 0, 1) := by decide +kernel
theorem d_Mo_sheet_65 : decode c_yMo_sheet 65 = .ok (.iastore, 1) := by decide +kernel
theorem d_Mo_sheet_66 : decode c_yMo_sheet 66 = .ok (.iinc 3 1, 3) := by decide +kernel
theorem d_Mo_sheet_69 : decode c_yMo_sheet 69 = .ok (.goto (-16), 3) := by decide +kernel
theorem d_Mo_sheet_72 : decode c_yMo_sheet 72 = .ok (.return_, 1) := by decide +kernel
set_option maxHeartbeats 4000000 in
set_option maxRecDepth 100000 in
theorem c_Model_sheet (l : Launch) (dC : Nat → ClassId) (dI : Nat → Nat → Nat) (hm zd zb zt zs zc zo : Nat) (tw w h mn n fx fy fa fb fc qr fo : Int) (cI : ClassId) (Dk : Int → Int32) (nw nh : Int) (sz : Nat) (nw1 : -2147483648 ≤ nw) (nh1 : -2147483648 ≤ nh) (nw2 : nw ≤ 2147483647) (nh2 : nh ≤ 2147483647) : Met l y_Mo_sheet w_Mo_sheet ({ frames := 0, cells := 0, slots := 0, locals := 0 }) (va_Pc [.ref hm, .int (iZ nw), .int (iZ nh)] (zPm (dC, dI) vwCl [(hm, .inr (6, [.int (iZ tw), .int (iZ w), .int (iZ h), .int (iZ mn), .ref zd, .ref zb, .ref zt, .int (iZ n), .ref zs, .ref zc, .int (iZ fx), .int (iZ fy), .int (iZ fa), .int (iZ fb), .int (iZ fc), .int (iZ qr), .int (iZ fo), .ref zo])), (zd, .inl (cI, 32768, .inl (aI Dk)))] [(cI, .int)] sz)) (va_Qv (fun (u : Int × Int × Int × (Int → Int32)) => ((1 ≤ nw ∧ nw ≤ 1024 ∧ 1 ≤ nh ∧ nh ≤ 1024) ∧ u.1 = 0 ∧ u.2.1 = nw ∧ u.2.2.1 = nh ∧ RepM u.2.2.2 (fun _ _ => false)) ∨ (¬ (1 ≤ nw ∧ nw ≤ 1024 ∧ 1 ≤ nh ∧ nh ≤ 1024) ∧ u.1 = 1 ∧ u.2.1 = w ∧ u.2.2.1 = h ∧ u.2.2.2 = Dk)) (fun u => zB (dC, dI) vwCl [(cI, .int)] (va_A [(hm, .inr (6, [.int (iZ tw), .int (iZ w), .int (iZ h), .int (iZ mn), .ref zd, .ref zb, .ref zt, .int (iZ n), .ref zs, .ref zc, .int (iZ fx), .int (iZ fy), .int (iZ fa), .int (iZ fb), .int (iZ fc), .int (iZ qr), .int (iZ fo), .ref zo])), (zd, .inl (cI, 32768, .inl (aI Dk)))] sz) [(hm, .inr (6, [.int (iZ u.1), .int (iZ u.2.1), .int (iZ u.2.2.1), .int (iZ mn), .ref zd, .ref zb, .ref zt, .int (iZ n), .ref zs, .ref zc, .int (iZ fx), .int (iZ fy), .int (iZ fa), .int (iZ fb), .int (iZ fc), .int (iZ qr), .int (iZ fo), .ref zo])), (zd, .inl (cI, 32768, .inl (aI u.2.2.2)))]) (va_A [(hm, .inr (6, [.int (iZ tw), .int (iZ w), .int (iZ h), .int (iZ mn), .ref zd, .ref zb, .ref zt, .int (iZ n), .ref zs, .ref zc, .int (iZ fx), .int (iZ fy), .int (iZ fa), .int (iZ fb), .int (iZ fc), .int (iZ qr), .int (iZ fo), .ref zo])), (zd, .inl (cI, 32768, .inl (aI Dk)))] sz)) 0 0 (va_A [(hm, .inr (6, [.int (iZ tw), .int (iZ w), .int (iZ h), .int (iZ mn), .ref zd, .ref zb, .ref zt, .int (iZ n), .ref zs, .ref zc, .int (iZ fx), .int (iZ fy), .int (iZ fa), .int (iZ fb), .int (iZ fc), .int (iZ qr), .int (iZ fo), .ref zo])), (zd, .inl (cI, 32768, .inl (aI Dk)))] sz) := by
  refine Met.ofW (cc := c_yMo_sheet) (maxL := 4) (ret := none) (by decide) rfl ?_
  intro p e s m args below meth c s₁ B hml hv
  obtain ⟨rfl, hsz, hP, hK, hD0⟩ := hv
  have hx := B.exec
  have hb := B.bytes
  have hr := B.returns
  have hts0 := atoms_spec (ws := w_Mo_sheet) B.pre
  have hts : ∀ w ∈ gT, w.before _ s = true := fun w h => hts0 w (List.mem_cons_of_mem _ h)
  have hown : s.vm.findClass R_Mo = some m.cls := findClass_of_methodNamed B.named
  have hlocks := B.notSynchronized
  subst hsz
  have hD := hD0.self (sz := s.heap.size)
  generalize hAe : va_A [(hm, .inr (6, [.int (iZ tw), .int (iZ w), .int (iZ h), .int (iZ mn), .ref zd, .ref zb, .ref zt, .int (iZ n), .ref zs, .ref zc, .int (iZ fx), .int (iZ fy), .int (iZ fa), .int (iZ fb), .int (iZ fc), .int (iZ qr), .int (iZ fo), .ref zo])), (zd, .inl (cI, 32768, .inl (aI Dk)))] s.heap.size = A at hD ⊢
  have hA : ∀ q : Nat, s.heap.size ≤ q → A q := fun q h => by rw [← hAe]; exact Or.inr h
  obtain ⟨H, hH⟩ : ∃ H, s.heap = H := ⟨_, rfl⟩
  have hS : va_S A s.heap H [] := by rw [← hH]; exact va_S.rf
  rw [hH] at hP
  rw [hH]
  have hl := lv_entry ([.ref hm, .int (iZ nw), .int (iZ nh)]) (n := 4) (Nat.le_of_ble_eq_true rfl)
  rw [lg_entry_eq]
  generalize (lg_sl ([.ref hm, .int (iZ nw), .int (iZ nh)]) ++ List.replicate (4 - (lg_sl ([.ref hm, .int (iZ nw), .int (iZ nh)])).length) Slot.unset).toArray = ls at hl ⊢
  have hl : lv_has ls 4 [(0, .ref hm), (1, .int (iZ nw)), (2, .int (iZ nh))] := hl
  refine lv_aload_n hx hb d_Mo_sheet_0 rfl (lv_at hl 0 rfl) ?_
  refine lv_iload_n hx hb d_Mo_sheet_1 rfl (lv_at hl 1 rfl) ?_
  refine lv_iconst (v := iZ (1)) hx hb d_Mo_sheet_2 rfl ?_
  refine zi_lt (tgt := 25) hx hb d_Mo_sheet_3 (by decide) (by omega) (by omega) (by omega) (by omega) (fun c_3 => ?_) (fun c_3 => ?_)
  · refine lv_iconst (v := iZ (1)) hx hb d_Mo_sheet_25 rfl ?_
    refine lv_goto (tgt := 30) hx hb d_Mo_sheet_26 (by decide) ?_
    refine va_put (D := (dC, dI)) (ci := 6) (v := .int (iZ 1)) (ty := .int) (C := R_Mo) (T := T_Mo) (N := 18) hx hb hts wi_Mo ty_Mo ty_Mo_ok nd_Mo hown hK hP hD hS 0 rfl rfl 0 (by decide) (hts _ t_684) (fun _ h9 => h9) rfl (by decide +kernel) rfl rfl (Nat.le_of_ble_eq_true rfl) d_Mo_sheet_30 (fun H locs hP hD hS => ?_)
    have hP : va_P (dC, dI) vwCl [(hm, .inr (6, [.int (iZ 1), .int (iZ w), .int (iZ h), .int (iZ mn), .ref zd, .ref zb, .ref zt, .int (iZ n), .ref zs, .ref zc, .int (iZ fx), .int (iZ fy), .int (iZ fa), .int (iZ fb), .int (iZ fc), .int (iZ qr), .int (iZ fo), .ref zo])), (zd, .inl (cI, 32768, .inl (aI Dk)))] H := hP
    have hD : va_D A [(hm, .inr (6, [.int (iZ 1), .int (iZ w), .int (iZ h), .int (iZ mn), .ref zd, .ref zb, .ref zt, .int (iZ n), .ref zs, .ref zc, .int (iZ fx), .int (iZ fy), .int (iZ fa), .int (iZ fb), .int (iZ fc), .int (iZ qr), .int (iZ fo), .ref zo])), (zd, .inl (cI, 32768, .inl (aI Dk)))] := hD
    refine lv_aload_n hx hb d_Mo_sheet_33 rfl (lv_at hl 0 rfl) ?_
    refine va_get (D := (dC, dI)) (ci := 6) (v := .int (iZ 1)) (C := R_Mo) (T := T_Mo) (N := 18) hx hb hts wi_Mo hown hK hP 0 rfl rfl 0 (by decide) (hts _ t_684) (fun _ h9 => h9) rfl d_Mo_sheet_34 ?_
    refine zi_if_le (tgt := 41) hx hb d_Mo_sheet_37 (by decide) (by omega) (by omega) (fun c_37 => ?_) (fun c_37 => ?_)
    · exact absurd c_37 (by omega)
    · exact W.vret hx hb hr (fun t ht hW => ⟨⟨((1, w, h, Dk)), rfl, Or.inr ⟨by omega, rfl, rfl, rfl, rfl⟩, by rw [ht]; exact hP, va_K.moved hW.alike hK, hD⟩, hS.F ht⟩) hS.2.2 d_Mo_sheet_40
  · refine lv_iload_n hx hb d_Mo_sheet_6 rfl (lv_at hl 1 rfl) ?_
    refine lv_sipush (v := iZ (1024)) hx hb d_Mo_sheet_7 (by decide) ?_
    refine zi_gt (tgt := 25) hx hb d_Mo_sheet_10 (by decide) (by omega) (by omega) (by omega) (by omega) (fun c_10 => ?_) (fun c_10 => ?_)
    · refine lv_iconst (v := iZ (1)) hx hb d_Mo_sheet_25 rfl ?_
      refine lv_goto (tgt := 30) hx hb d_Mo_sheet_26 (by decide) ?_
      refine va_put (D := (dC, dI)) (ci := 6) (v := .int (iZ 1)) (ty := .int) (C := R_Mo) (T := T_Mo) (N := 18) hx hb hts wi_Mo ty_Mo ty_Mo_ok nd_Mo hown hK hP hD hS 0 rfl rfl 0 (by decide) (hts _ t_684) (fun _ h9 => h9) rfl (by decide +kernel) rfl rfl (Nat.le_of_ble_eq_true rfl) d_Mo_sheet_30 (fun H locs hP hD hS => ?_)
      have hP : va_P (dC, dI) vwCl [(hm, .inr (6, [.int (iZ 1), .int (iZ w), .int (iZ h), .int (iZ mn), .ref zd, .ref zb, .ref zt, .int (iZ n), .ref zs, .ref zc, .int (iZ fx), .int (iZ fy), .int (iZ fa), .int (iZ fb), .int (iZ fc), .int (iZ qr), .int (iZ fo), .ref zo])), (zd, .inl (cI, 32768, .inl (aI Dk)))] H := hP
      have hD : va_D A [(hm, .inr (6, [.int (iZ 1), .int (iZ w), .int (iZ h), .int (iZ mn), .ref zd, .ref zb, .ref zt, .int (iZ n), .ref zs, .ref zc, .int (iZ fx), .int (iZ fy), .int (iZ fa), .int (iZ fb), .int (iZ fc), .int (iZ qr), .int (iZ fo), .ref zo])), (zd, .inl (cI, 32768, .inl (aI Dk)))] := hD
      refine lv_aload_n hx hb d_Mo_sheet_33 rfl (lv_at hl 0 rfl) ?_
      refine va_get (D := (dC, dI)) (ci := 6) (v := .int (iZ 1)) (C := R_Mo) (T := T_Mo) (N := 18) hx hb hts wi_Mo hown hK hP 0 rfl rfl 0 (by decide) (hts _ t_684) (fun _ h9 => h9) rfl d_Mo_sheet_34 ?_
      refine zi_if_le (tgt := 41) hx hb d_Mo_sheet_37 (by decide) (by omega) (by omega) (fun c_37 => ?_) (fun c_37 => ?_)
      · exact absurd c_37 (by omega)
      · exact W.vret hx hb hr (fun t ht hW => ⟨⟨((1, w, h, Dk)), rfl, Or.inr ⟨by omega, rfl, rfl, rfl, rfl⟩, by rw [ht]; exact hP, va_K.moved hW.alike hK, hD⟩, hS.F ht⟩) hS.2.2 d_Mo_sheet_40
    · refine lv_iload_n hx hb d_Mo_sheet_13 rfl (lv_at hl 2 rfl) ?_
      refine lv_iconst (v := iZ (1)) hx hb d_Mo_sheet_14 rfl ?_
      refine zi_lt (tgt := 25) hx hb d_Mo_sheet_15 (by decide) (by omega) (by omega) (by omega) (by omega) (fun c_15 => ?_) (fun c_15 => ?_)
      · refine lv_iconst (v := iZ (1)) hx hb d_Mo_sheet_25 rfl ?_
        refine lv_goto (tgt := 30) hx hb d_Mo_sheet_26 (by decide) ?_
        refine va_put (D := (dC, dI)) (ci := 6) (v := .int (iZ 1)) (ty := .int) (C := R_Mo) (T := T_Mo) (N := 18) hx hb hts wi_Mo ty_Mo ty_Mo_ok nd_Mo hown hK hP hD hS 0 rfl rfl 0 (by decide) (hts _ t_684) (fun _ h9 => h9) rfl (by decide +kernel) rfl rfl (Nat.le_of_ble_eq_true rfl) d_Mo_sheet_30 (fun H locs hP hD hS => ?_)
        have hP : va_P (dC, dI) vwCl [(hm, .inr (6, [.int (iZ 1), .int (iZ w), .int (iZ h), .int (iZ mn), .ref zd, .ref zb, .ref zt, .int (iZ n), .ref zs, .ref zc, .int (iZ fx), .int (iZ fy), .int (iZ fa), .int (iZ fb), .int (iZ fc), .int (iZ qr), .int (iZ fo), .ref zo])), (zd, .inl (cI, 32768, .inl (aI Dk)))] H := hP
        have hD : va_D A [(hm, .inr (6, [.int (iZ 1), .int (iZ w), .int (iZ h), .int (iZ mn), .ref zd, .ref zb, .ref zt, .int (iZ n), .ref zs, .ref zc, .int (iZ fx), .int (iZ fy), .int (iZ fa), .int (iZ fb), .int (iZ fc), .int (iZ qr), .int (iZ fo), .ref zo])), (zd, .inl (cI, 32768, .inl (aI Dk)))] := hD
        refine lv_aload_n hx hb d_Mo_sheet_33 rfl (lv_at hl 0 rfl) ?_
        refine va_get (D := (dC, dI)) (ci := 6) (v := .int (iZ 1)) (C := R_Mo) (T := T_Mo) (N := 18) hx hb hts wi_Mo hown hK hP 0 rfl rfl 0 (by decide) (hts _ t_684) (fun _ h9 => h9) rfl d_Mo_sheet_34 ?_
        refine zi_if_le (tgt := 41) hx hb d_Mo_sheet_37 (by decide) (by omega) (by omega) (fun c_37 => ?_) (fun c_37 => ?_)
        · exact absurd c_37 (by omega)
        · exact W.vret hx hb hr (fun t ht hW => ⟨⟨((1, w, h, Dk)), rfl, Or.inr ⟨by omega, rfl, rfl, rfl, rfl⟩, by rw [ht]; exact hP, va_K.moved hW.alike hK, hD⟩, hS.F ht⟩) hS.2.2 d_Mo_sheet_40
      · refine lv_iload_n hx hb d_Mo_sheet_18 rfl (lv_at hl 2 rfl) ?_
        refine lv_sipush (v := iZ (1024)) hx hb d_Mo_sheet_19 (by decide) ?_
        refine zi_le (tgt := 29) hx hb d_Mo_sheet_22 (by decide) (by omega) (by omega) (by omega) (by omega) (fun c_22 => ?_) (fun c_22 => ?_)
        · refine lv_iconst (v := iZ (0)) hx hb d_Mo_sheet_29 rfl ?_
          refine va_put (D := (dC, dI)) (ci := 6) (v := .int (iZ 0)) (ty := .int) (C := R_Mo) (T := T_Mo) (N := 18) hx hb hts wi_Mo ty_Mo ty_Mo_ok nd_Mo hown hK hP hD hS 0 rfl rfl 0 (by decide) (hts _ t_684) (fun _ h9 => h9) rfl (by decide +kernel) rfl rfl (Nat.le_of_ble_eq_true rfl) d_Mo_sheet_30 (fun H locs hP hD hS => ?_)
          have hP : va_P (dC, dI) vwCl [(hm, .inr (6, [.int (iZ 0), .int (iZ w), .int (iZ h), .int (iZ mn), .ref zd, .ref zb, .ref zt, .int (iZ n), .ref zs, .ref zc, .int (iZ fx), .int (iZ fy), .int (iZ fa), .int (iZ fb), .int (iZ fc), .int (iZ qr), .int (iZ fo), .ref zo])), (zd, .inl (cI, 32768, .inl (aI Dk)))] H := hP
          have hD : va_D A [(hm, .inr (6, [.int (iZ 0), .int (iZ w), .int (iZ h), .int (iZ mn), .ref zd, .ref zb, .ref zt, .int (iZ n), .ref zs, .ref zc, .int (iZ fx), .int (iZ fy), .int (iZ fa), .int (iZ fb), .int (iZ fc), .int (iZ qr), .int (iZ fo), .ref zo])), (zd, .inl (cI, 32768, .inl (aI Dk)))] := hD
          refine lv_aload_n hx hb d_Mo_sheet_33 rfl (lv_at hl 0 rfl) ?_
          refine va_get (D := (dC, dI)) (ci := 6) (v := .int (iZ 0)) (C := R_Mo) (T := T_Mo) (N := 18) hx hb hts wi_Mo hown hK hP 0 rfl rfl 0 (by decide) (hts _ t_684) (fun _ h9 => h9) rfl d_Mo_sheet_34 ?_
          refine zi_if_le (tgt := 41) hx hb d_Mo_sheet_37 (by decide) (by omega) (by omega) (fun c_37 => ?_) (fun c_37 => ?_)
          · refine lv_aload_n hx hb d_Mo_sheet_41 rfl (lv_at hl 0 rfl) ?_
            refine lv_iload_n hx hb d_Mo_sheet_42 rfl (lv_at hl 1 rfl) ?_
            refine va_put (D := (dC, dI)) (ci := 6) (v := .int (iZ nw)) (ty := .int) (C := R_Mo) (T := T_Mo) (N := 18) hx hb hts wi_Mo ty_Mo ty_Mo_ok nd_Mo hown hK hP hD hS 0 rfl rfl 1 (by decide) (hts _ t_685) (fun _ h9 => h9) rfl (by decide +kernel) rfl rfl (Nat.le_of_ble_eq_true rfl) d_Mo_sheet_43 (fun H locs hP hD hS => ?_)
            have hP : va_P (dC, dI) vwCl [(hm, .inr (6, [.int (iZ 0), .int (iZ nw), .int (iZ h), .int (iZ mn), .ref zd, .ref zb, .ref zt, .int (iZ n), .ref zs, .ref zc, .int (iZ fx), .int (iZ fy), .int (iZ fa), .int (iZ fb), .int (iZ fc), .int (iZ qr), .int (iZ fo), .ref zo])), (zd, .inl (cI, 32768, .inl (aI Dk)))] H := hP
            have hD : va_D A [(hm, .inr (6, [.int (iZ 0), .int (iZ nw), .int (iZ h), .int (iZ mn), .ref zd, .ref zb, .ref zt, .int (iZ n), .ref zs, .ref zc, .int (iZ fx), .int (iZ fy), .int (iZ fa), .int (iZ fb), .int (iZ fc), .int (iZ qr), .int (iZ fo), .ref zo])), (zd, .inl (cI, 32768, .inl (aI Dk)))] := hD
            refine lv_aload_n hx hb d_Mo_sheet_46 rfl (lv_at hl 0 rfl) ?_
            refine lv_iload_n hx hb d_Mo_sheet_47 rfl (lv_at hl 2 rfl) ?_
            refine va_put (D := (dC, dI)) (ci := 6) (v := .int (iZ nh)) (ty := .int) (C := R_Mo) (T := T_Mo) (N := 18) hx hb hts wi_Mo ty_Mo ty_Mo_ok nd_Mo hown hK hP hD hS 0 rfl rfl 2 (by decide) (hts _ t_686) (fun _ h9 => h9) rfl (by decide +kernel) rfl rfl (Nat.le_of_ble_eq_true rfl) d_Mo_sheet_48 (fun H locs hP hD hS => ?_)
            have hP : va_P (dC, dI) vwCl [(hm, .inr (6, [.int (iZ 0), .int (iZ nw), .int (iZ nh), .int (iZ mn), .ref zd, .ref zb, .ref zt, .int (iZ n), .ref zs, .ref zc, .int (iZ fx), .int (iZ fy), .int (iZ fa), .int (iZ fb), .int (iZ fc), .int (iZ qr), .int (iZ fo), .ref zo])), (zd, .inl (cI, 32768, .inl (aI Dk)))] H := hP
            have hD : va_D A [(hm, .inr (6, [.int (iZ 0), .int (iZ nw), .int (iZ nh), .int (iZ mn), .ref zd, .ref zb, .ref zt, .int (iZ n), .ref zs, .ref zc, .int (iZ fx), .int (iZ fy), .int (iZ fa), .int (iZ fb), .int (iZ fc), .int (iZ qr), .int (iZ fo), .ref zo])), (zd, .inl (cI, 32768, .inl (aI Dk)))] := hD
            refine lv_iconst (v := iZ (0)) hx hb d_Mo_sheet_51 rfl ?_
            refine lv_istore_n (lv' := [(3, .int (iZ 0)), (0, .ref hm), (1, .int (iZ nw)), (2, .int (iZ nh))]) hx hb d_Mo_sheet_52 rfl hl (by decide) rfl (fun ls hl => ?_)
            have LP_53 : ∀ (n_53 : Nat) (k : Int) (K : Int → Int32), (0 ≤ k) → (k ≤ 32768) → (∀ j : Int, 0 ≤ j → j < k → K j = iZ 0) → (32768 - k).toNat < n_53 → ∀ (H : Heap) (locs : List Loc), va_P (dC, dI) vwCl [(hm, .inr (6, [.int (iZ 0), .int (iZ nw), .int (iZ nh), .int (iZ mn), .ref zd, .ref zb, .ref zt, .int (iZ n), .ref zs, .ref zc, .int (iZ fx), .int (iZ fy), .int (iZ fa), .int (iZ fb), .int (iZ fc), .int (iZ qr), .int (iZ fo), .ref zo])), (zd, .inl (cI, 32768, .inl (aI K)))] H → va_D A [(hm, .inr (6, [.int (iZ 0), .int (iZ nw), .int (iZ nh), .int (iZ mn), .ref zd, .ref zb, .ref zt, .int (iZ n), .ref zs, .ref zc, .int (iZ fx), .int (iZ fy), .int (iZ fa), .int (iZ fb), .int (iZ fc), .int (iZ qr), .int (iZ fo), .ref zo])), (zd, .inl (cI, 32768, .inl (aI K)))] → va_S A s.heap H locs → ∀ (ls : Array Slot), lv_has ls 4 [(0, .ref hm), (1, .int (iZ nw)), (2, .int (iZ nh)), (3, .int (iZ k))] → W p l e ({ frames := 0, cells := 0, slots := 0, locals := 0 } : Room) s m ([.ref hm, .int (iZ nw), .int (iZ nh)] : List Value).toArray below meth c H locs 0 0 (MQ below (va_Qv (fun (u : Int × Int × Int × (Int → Int32)) => ((1 ≤ nw ∧ nw ≤ 1024 ∧ 1 ≤ nh ∧ nh ≤ 1024) ∧ u.1 = 0 ∧ u.2.1 = nw ∧ u.2.2.1 = nh ∧ RepM u.2.2.2 (fun _ _ => false)) ∨ (¬ (1 ≤ nw ∧ nw ≤ 1024 ∧ 1 ≤ nh ∧ nh ≤ 1024) ∧ u.1 = 1 ∧ u.2.1 = w ∧ u.2.2.1 = h ∧ u.2.2.2 = Dk)) (fun u => zB (dC, dI) vwCl [(cI, .int)] A [(hm, .inr (6, [.int (iZ u.1), .int (iZ u.2.1), .int (iZ u.2.2.1), .int (iZ mn), .ref zd, .ref zb, .ref zt, .int (iZ n), .ref zs, .ref zc, .int (iZ fx), .int (iZ fy), .int (iZ fa), .int (iZ fb), .int (iZ fc), .int (iZ qr), .int (iZ fo), .ref zo])), (zd, .inl (cI, 32768, .inl (aI u.2.2.2)))]) A) ([.ref hm, .int (iZ nw), .int (iZ nh)] : List Value).toArray s 0 0 A) (F0 m 53 ls []) := by
              intro n_53
              induction n_53 with
              | zero => intro k K i1 i2 i3 hm; exact absurd hm (by omega)
              | succ n_53 ih_53 =>
                intro k K i1 i2 i3 hm_53 H locs hP hD hS ls hl
                refine lv_iload_n hx hb d_Mo_sheet_53 rfl (lv_at hl 3 rfl) ?_
                refine lv_ldc (v := iZ (32768)) hx hb hown (hts _ t_683) d_Mo_sheet_54 ?_
                refine zi_ge (tgt := 72) hx hb d_Mo_sheet_56 (by decide) (by omega) (by omega) (by omega) (by omega) (fun c_56 => ?_) (fun c_56 => ?_)
                · exact W.vret hx hb hr (fun t ht hW => ⟨⟨((0, nw, nh, K)), rfl, Or.inl ⟨by omega, rfl, rfl, rfl, rm_0 (fun j j1 j2 => i3 j j1 (by omega))⟩, by rw [ht]; exact hP, va_K.moved hW.alike hK, hD⟩, hS.F ht⟩) hS.2.2 d_Mo_sheet_72
                · refine lv_aload_n hx hb d_Mo_sheet_59 rfl (lv_at hl 0 rfl) ?_
                  refine va_get (D := (dC, dI)) (ci := 6) (v := .ref zd) (C := R_Mo) (T := T_Mo) (N := 18) hx hb hts wi_Mo hown hK hP 0 rfl rfl 4 (by decide) (hts _ t_688) (fun _ h9 => h9) rfl d_Mo_sheet_60 ?_
                  refine lv_iload_n hx hb d_Mo_sheet_63 rfl (lv_at hl 3 rfl) ?_
                  refine lv_iconst (v := iZ (0)) hx hb d_Mo_sheet_64 rfl ?_
                  refine z_iast hx hb hK hP hD hS 1 0 rfl rfl (by omega) (by omega) (by omega) d_Mo_sheet_65 (fun H locs hP hD hS => ?_)
                  have hP : va_P (dC, dI) vwCl [(hm, .inr (6, [.int (iZ 0), .int (iZ nw), .int (iZ nh), .int (iZ mn), .ref zd, .ref zb, .ref zt, .int (iZ n), .ref zs, .ref zc, .int (iZ fx), .int (iZ fy), .int (iZ fa), .int (iZ fb), .int (iZ fc), .int (iZ qr), .int (iZ fo), .ref zo])), (zd, .inl (cI, 32768, .inl (aI (upZ K k (iZ 0)))))] H := hP
                  have hD : va_D A [(hm, .inr (6, [.int (iZ 0), .int (iZ nw), .int (iZ nh), .int (iZ mn), .ref zd, .ref zb, .ref zt, .int (iZ n), .ref zs, .ref zc, .int (iZ fx), .int (iZ fy), .int (iZ fa), .int (iZ fb), .int (iZ fc), .int (iZ qr), .int (iZ fo), .ref zo])), (zd, .inl (cI, 32768, .inl (aI (upZ K k (iZ 0)))))] := hD
                  refine lv_iinc (v := iZ (k + 1)) (lv' := [(3, .int (iZ (k + 1))), (0, .ref hm), (1, .int (iZ nw)), (2, .int (iZ nh))]) hx hb d_Mo_sheet_66 hl (k := 3) rfl (iZ_add _ _) (by decide) rfl (fun ls hl => ?_)
                  refine lv_goto (tgt := 53) hx hb d_Mo_sheet_69 (by decide) ?_
                  exact ih_53 (k + 1) (upZ K k (iZ 0)) (by omega) (by omega) (fun j j1 j2 => by by_cases q : j = k; (rw [q, upZ_s]); (rw [upZ_n _ _ q]; exact i3 j j1 (by omega))) (by omega) _ _ hP hD hS ls (lv_sub hl [1, 2, 3, 0] rfl)
            exact LP_53 _ 0 Dk (by omega) (by omega) (fun j j1 j2 => absurd j2 (by omega)) (Nat.lt_succ_self _) _ _ hP hD hS ls (lv_sub hl [1, 2, 3, 0] rfl)
          · exact absurd c_37 (by omega)
        · refine lv_iconst (v := iZ (1)) hx hb d_Mo_sheet_25 rfl ?_
          refine lv_goto (tgt := 30) hx hb d_Mo_sheet_26 (by decide) ?_
          refine va_put (D := (dC, dI)) (ci := 6) (v := .int (iZ 1)) (ty := .int) (C := R_Mo) (T := T_Mo) (N := 18) hx hb hts wi_Mo ty_Mo ty_Mo_ok nd_Mo hown hK hP hD hS 0 rfl rfl 0 (by decide) (hts _ t_684) (fun _ h9 => h9) rfl (by decide +kernel) rfl rfl (Nat.le_of_ble_eq_true rfl) d_Mo_sheet_30 (fun H locs hP hD hS => ?_)
          have hP : va_P (dC, dI) vwCl [(hm, .inr (6, [.int (iZ 1), .int (iZ w), .int (iZ h), .int (iZ mn), .ref zd, .ref zb, .ref zt, .int (iZ n), .ref zs, .ref zc, .int (iZ fx), .int (iZ fy), .int (iZ fa), .int (iZ fb), .int (iZ fc), .int (iZ qr), .int (iZ fo), .ref zo])), (zd, .inl (cI, 32768, .inl (aI Dk)))] H := hP
          have hD : va_D A [(hm, .inr (6, [.int (iZ 1), .int (iZ w), .int (iZ h), .int (iZ mn), .ref zd, .ref zb, .ref zt, .int (iZ n), .ref zs, .ref zc, .int (iZ fx), .int (iZ fy), .int (iZ fa), .int (iZ fb), .int (iZ fc), .int (iZ qr), .int (iZ fo), .ref zo])), (zd, .inl (cI, 32768, .inl (aI Dk)))] := hD
          refine lv_aload_n hx hb d_Mo_sheet_33 rfl (lv_at hl 0 rfl) ?_
          refine va_get (D := (dC, dI)) (ci := 6) (v := .int (iZ 1)) (C := R_Mo) (T := T_Mo) (N := 18) hx hb hts wi_Mo hown hK hP 0 rfl rfl 0 (by decide) (hts _ t_684) (fun _ h9 => h9) rfl d_Mo_sheet_34 ?_
          refine zi_if_le (tgt := 41) hx hb d_Mo_sheet_37 (by decide) (by omega) (by omega) (fun c_37 => ?_) (fun c_37 => ?_)
          · exact absurd c_37 (by omega)
          · exact W.vret hx hb hr (fun t ht hW => ⟨⟨((1, w, h, Dk)), rfl, Or.inr ⟨by omega, rfl, rfl, rfl, rfl⟩, by rw [ht]; exact hP, va_K.moved hW.alike hK, hD⟩, hS.F ht⟩) hS.2.2 d_Mo_sheet_40
theorem d_Mo_way_0 : decode c_yMo_way 0 = .ok (.aload_n 0, 1) := by decide +kernel
theorem d_Mo_way_1 : decode c_yMo_way 1 = .ok (.iload_n 1, 1) := by decide +kernel
theorem d_Mo_way_2 : decode c_yMo_way 2 = .ok (.ifCond .lt 8, 3) := by decide +kernel
theorem d_Mo_way_5 : decode c_yMo_way 5 = .ok (.iload_n 1, 1) := by decide +kernel
theorem d_Mo_way_6 : decode c_yMo_way 6 = .ok (.iconst 2, 1) := by decide +kernel
theorem d_Mo_way_7 : decode c_yMo_way 7 = .ok (.if_icmp .le 7, 3) := by decide +kernel
theorem d_Mo_way_10 : decode c_yMo_way 10 = .ok (.iconst 1, 1) := by decide +kernel
theorem d_Mo_way_11 : decode c_yMo_way 11 = .ok (.goto 4, 3) := by decide +kernel
theorem d_Mo_way_14 : decode c_yMo_way 14 = .ok (.iconst 0, 1) := by decide +kernel
theorem d_Mo_way_15 : decode c_yMo_way 15 = .ok (.putfield 37, 3) := by decide +kernel
theorem d_Mo_way_18 : decode c_yMo_way 18 = .ok (.aload_n 0, 1) := by decide +kernel
theorem d_Mo_way_19 : decode c_yMo_way 19 = .ok (.getfield 37, 3) := by decide +kernel
theorem d_Mo_way_22 : decode c_yMo_way 22 = .ok (.ifCond .le 5, 3) := by decide +kernel
theorem d_Mo_way_25 : decode c_yMo_way 25 = .ok (.iconst 0, 1) := by decide +kernel
theorem d_Mo_way_26 : decode c_yMo_way 26 = .ok (.ireturn, 1) := by decide +kernel
theorem d_Mo_way_27 : decode c_yMo_way 27 = .ok (.aload_n 0, 1) := by decide +kernel
theorem d_Mo_way_28 : decode c_yMo_way 28 = .ok (.getfield 44, 3) := by decide +kernel
theorem d_Mo_way_31 : decode c_yMo_way 31 = .ok (.istore_n 2, 1) := by decide +kernel
theorem d_Mo_way_32 : decode c_yMo_way 32 = .ok (.aload_n 0, 1) := by decide +kernel
theorem d_Mo_way_33 : decode c_yMo_way 33 = .ok (.iload_n 1, 1) := by decide +kernel
theorem d_Mo_way_34 : decode c_yMo_way 34 = .ok (.putfield 44, 3) := by decide +kernel
theorem d_Mo_way_37 : decode c_yMo_way 37 = .ok (.iload_n 2, 1) := by decide +kernel
theorem d_Mo_way_38 : decode c_yMo_way 38 = .ok (.ireturn, 1) := by decide +kernel
set_option maxHeartbeats 4000000 in
set_option maxRecDepth 100000 in
theorem c_Model_way (l : Launch) (dC : Nat → ClassId) (dI : Nat → Nat → Nat) (hm zd zb zt zs zc zo : Nat) (tw w h mn n fx fy fa fb fc qr fo nm : Int) (sz : Nat) (nm1 : -2147483648 ≤ nm) (nm2 : nm ≤ 2147483647) : Met l y_Mo_way w_Mo_way ({ frames := 0, cells := 0, slots := 0, locals := 0 }) (va_Pc [.ref hm, .int (iZ nm)] (zPm (dC, dI) vwCl [(hm, .inr (6, [.int (iZ tw), .int (iZ w), .int (iZ h), .int (iZ mn), .ref zd, .ref zb, .ref zt, .int (iZ n), .ref zs, .ref zc, .int (iZ fx), .int (iZ fy), .int (iZ fa), .int (iZ fb), .int (iZ fc), .int (iZ qr), .int (iZ fo), .ref zo]))] [] sz)) (va_Qi (fun (r : Int32) (u : Int × Int) => ∃ z : Int, r = iZ z ∧ (((0 ≤ nm ∧ nm ≤ 2) ∧ u.1 = 0 ∧ u.2 = nm ∧ z = mn) ∨ (¬ (0 ≤ nm ∧ nm ≤ 2) ∧ u.1 = 1 ∧ u.2 = mn))) (fun u => zB (dC, dI) vwCl [] (va_A [(hm, .inr (6, [.int (iZ tw), .int (iZ w), .int (iZ h), .int (iZ mn), .ref zd, .ref zb, .ref zt, .int (iZ n), .ref zs, .ref zc, .int (iZ fx), .int (iZ fy), .int (iZ fa), .int (iZ fb), .int (iZ fc), .int (iZ qr), .int (iZ fo), .ref zo]))] sz) [(hm, .inr (6, [.int (iZ u.1), .int (iZ w), .int (iZ h), .int (iZ u.2), .ref zd, .ref zb, .ref zt, .int (iZ n), .ref zs, .ref zc, .int (iZ fx), .int (iZ fy), .int (iZ fa), .int (iZ fb), .int (iZ fc), .int (iZ qr), .int (iZ fo), .ref zo]))]) (va_A [(hm, .inr (6, [.int (iZ tw), .int (iZ w), .int (iZ h), .int (iZ mn), .ref zd, .ref zb, .ref zt, .int (iZ n), .ref zs, .ref zc, .int (iZ fx), .int (iZ fy), .int (iZ fa), .int (iZ fb), .int (iZ fc), .int (iZ qr), .int (iZ fo), .ref zo]))] sz)) 0 0 (va_A [(hm, .inr (6, [.int (iZ tw), .int (iZ w), .int (iZ h), .int (iZ mn), .ref zd, .ref zb, .ref zt, .int (iZ n), .ref zs, .ref zc, .int (iZ fx), .int (iZ fy), .int (iZ fa), .int (iZ fb), .int (iZ fc), .int (iZ qr), .int (iZ fo), .ref zo]))] sz) := by
  refine Met.ofW (cc := c_yMo_way) (maxL := 3) (ret := (some .int)) (by decide) rfl ?_
  intro p e s m args below meth c s₁ B hml hv
  obtain ⟨rfl, hsz, hP, hK, hD0⟩ := hv
  have hx := B.exec
  have hb := B.bytes
  have hr := B.returns
  have hts0 := atoms_spec (ws := w_Mo_way) B.pre
  have hts : ∀ w ∈ gT, w.before _ s = true := fun w h => hts0 w (List.mem_cons_of_mem _ h)
  have hown : s.vm.findClass R_Mo = some m.cls := findClass_of_methodNamed B.named
  have hlocks := B.notSynchronized
  subst hsz
  have hD := hD0.self (sz := s.heap.size)
  generalize hAe : va_A [(hm, .inr (6, [.int (iZ tw), .int (iZ w), .int (iZ h), .int (iZ mn), .ref zd, .ref zb, .ref zt, .int (iZ n), .ref zs, .ref zc, .int (iZ fx), .int (iZ fy), .int (iZ fa), .int (iZ fb), .int (iZ fc), .int (iZ qr), .int (iZ fo), .ref zo]))] s.heap.size = A at hD ⊢
  have hA : ∀ q : Nat, s.heap.size ≤ q → A q := fun q h => by rw [← hAe]; exact Or.inr h
  obtain ⟨H, hH⟩ : ∃ H, s.heap = H := ⟨_, rfl⟩
  have hS : va_S A s.heap H [] := by rw [← hH]; exact va_S.rf
  rw [hH] at hP
  rw [hH]
  have hl := lv_entry ([.ref hm, .int (iZ nm)]) (n := 3) (Nat.le_of_ble_eq_true rfl)
  rw [lg_entry_eq]
  generalize (lg_sl ([.ref hm, .int (iZ nm)]) ++ List.replicate (3 - (lg_sl ([.ref hm, .int (iZ nm)])).length) Slot.unset).toArray = ls at hl ⊢
  have hl : lv_has ls 3 [(0, .ref hm), (1, .int (iZ nm))] := hl
  refine lv_aload_n hx hb d_Mo_way_0 rfl (lv_at hl 0 rfl) ?_
  refine lv_iload_n hx hb d_Mo_way_1 rfl (lv_at hl 1 rfl) ?_
  refine zi_if_lt (tgt := 10) hx hb d_Mo_way_2 (by decide) (by omega) (by omega) (fun c_2 => ?_) (fun c_2 => ?_)
  · refine lv_iconst (v := iZ (1)) hx hb d_Mo_way_10 rfl ?_
    refine lv_goto (tgt := 15) hx hb d_Mo_way_11 (by decide) ?_
    refine va_put (D := (dC, dI)) (ci := 6) (v := .int (iZ 1)) (ty := .int) (C := R_Mo) (T := T_Mo) (N := 18) hx hb hts wi_Mo ty_Mo ty_Mo_ok nd_Mo hown hK hP hD hS 0 rfl rfl 0 (by decide) (hts _ t_684) (fun _ h9 => h9) rfl (by decide +kernel) rfl rfl (Nat.le_of_ble_eq_true rfl) d_Mo_way_15 (fun H locs hP hD hS => ?_)
    have hP : va_P (dC, dI) vwCl [(hm, .inr (6, [.int (iZ 1), .int (iZ w), .int (iZ h), .int (iZ mn), .ref zd, .ref zb, .ref zt, .int (iZ n), .ref zs, .ref zc, .int (iZ fx), .int (iZ fy), .int (iZ fa), .int (iZ fb), .int (iZ fc), .int (iZ qr), .int (iZ fo), .ref zo]))] H := hP
    have hD : va_D A [(hm, .inr (6, [.int (iZ 1), .int (iZ w), .int (iZ h), .int (iZ mn), .ref zd, .ref zb, .ref zt, .int (iZ n), .ref zs, .ref zc, .int (iZ fx), .int (iZ fy), .int (iZ fa), .int (iZ fb), .int (iZ fc), .int (iZ qr), .int (iZ fo), .ref zo]))] := hD
    refine lv_aload_n hx hb d_Mo_way_18 rfl (lv_at hl 0 rfl) ?_
    refine va_get (D := (dC, dI)) (ci := 6) (v := .int (iZ 1)) (C := R_Mo) (T := T_Mo) (N := 18) hx hb hts wi_Mo hown hK hP 0 rfl rfl 0 (by decide) (hts _ t_684) (fun _ h9 => h9) rfl d_Mo_way_19 ?_
    refine zi_if_le (tgt := 27) hx hb d_Mo_way_22 (by decide) (by omega) (by omega) (fun c_22 => ?_) (fun c_22 => ?_)
    · exact absurd c_22 (by omega)
    · refine lv_iconst (v := iZ (0)) hx hb d_Mo_way_25 rfl ?_
      exact W.iret hx hb hr (fun t ht hW => ⟨⟨_, ((1, mn)), rfl, ⟨_, rfl, Or.inr ⟨by omega, rfl, rfl⟩⟩, by rw [ht]; exact hP, va_K.moved hW.alike hK, hD⟩, hS.F ht⟩) hS.2.2 d_Mo_way_26
  · refine lv_iload_n hx hb d_Mo_way_5 rfl (lv_at hl 1 rfl) ?_
    refine lv_iconst (v := iZ (2)) hx hb d_Mo_way_6 rfl ?_
    refine zi_le (tgt := 14) hx hb d_Mo_way_7 (by decide) (by omega) (by omega) (by omega) (by omega) (fun c_7 => ?_) (fun c_7 => ?_)
    · refine lv_iconst (v := iZ (0)) hx hb d_Mo_way_14 rfl ?_
      refine va_put (D := (dC, dI)) (ci := 6) (v := .int (iZ 0)) (ty := .int) (C := R_Mo) (T := T_Mo) (N := 18) hx hb hts wi_Mo ty_Mo ty_Mo_ok nd_Mo hown hK hP hD hS 0 rfl rfl 0 (by decide) (hts _ t_684) (fun _ h9 => h9) rfl (by decide +kernel) rfl rfl (Nat.le_of_ble_eq_true rfl) d_Mo_way_15 (fun H locs hP hD hS => ?_)
      have hP : va_P (dC, dI) vwCl [(hm, .inr (6, [.int (iZ 0), .int (iZ w), .int (iZ h), .int (iZ mn), .ref zd, .ref zb, .ref zt, .int (iZ n), .ref zs, .ref zc, .int (iZ fx), .int (iZ fy), .int (iZ fa), .int (iZ fb), .int (iZ fc), .int (iZ qr), .int (iZ fo), .ref zo]))] H := hP
      have hD : va_D A [(hm, .inr (6, [.int (iZ 0), .int (iZ w), .int (iZ h), .int (iZ mn), .ref zd, .ref zb, .ref zt, .int (iZ n), .ref zs, .ref zc, .int (iZ fx), .int (iZ fy), .int (iZ fa), .int (iZ fb), .int (iZ fc), .int (iZ qr), .int (iZ fo), .ref zo]))] := hD
      refine lv_aload_n hx hb d_Mo_way_18 rfl (lv_at hl 0 rfl) ?_
      refine va_get (D := (dC, dI)) (ci := 6) (v := .int (iZ 0)) (C := R_Mo) (T := T_Mo) (N := 18) hx hb hts wi_Mo hown hK hP 0 rfl rfl 0 (by decide) (hts _ t_684) (fun _ h9 => h9) rfl d_Mo_way_19 ?_
      refine zi_if_le (tgt := 27) hx hb d_Mo_way_22 (by decide) (by omega) (by omega) (fun c_22 => ?_) (fun c_22 => ?_)
      · refine lv_aload_n hx hb d_Mo_way_27 rfl (lv_at hl 0 rfl) ?_
        refine va_get (D := (dC, dI)) (ci := 6) (v := .int (iZ mn)) (C := R_Mo) (T := T_Mo) (N := 18) hx hb hts wi_Mo hown hK hP 0 rfl rfl 3 (by decide) (hts _ t_687) (fun _ h9 => h9) rfl d_Mo_way_28 ?_
        refine lv_istore_n (lv' := [(2, .int (iZ mn)), (0, .ref hm), (1, .int (iZ nm))]) hx hb d_Mo_way_31 rfl hl (by decide) rfl (fun ls hl => ?_)
        refine lv_aload_n hx hb d_Mo_way_32 rfl (lv_at hl 1 rfl) ?_
        refine lv_iload_n hx hb d_Mo_way_33 rfl (lv_at hl 2 rfl) ?_
        refine va_put (D := (dC, dI)) (ci := 6) (v := .int (iZ nm)) (ty := .int) (C := R_Mo) (T := T_Mo) (N := 18) hx hb hts wi_Mo ty_Mo ty_Mo_ok nd_Mo hown hK hP hD hS 0 rfl rfl 3 (by decide) (hts _ t_687) (fun _ h9 => h9) rfl (by decide +kernel) rfl rfl (Nat.le_of_ble_eq_true rfl) d_Mo_way_34 (fun H locs hP hD hS => ?_)
        have hP : va_P (dC, dI) vwCl [(hm, .inr (6, [.int (iZ 0), .int (iZ w), .int (iZ h), .int (iZ nm), .ref zd, .ref zb, .ref zt, .int (iZ n), .ref zs, .ref zc, .int (iZ fx), .int (iZ fy), .int (iZ fa), .int (iZ fb), .int (iZ fc), .int (iZ qr), .int (iZ fo), .ref zo]))] H := hP
        have hD : va_D A [(hm, .inr (6, [.int (iZ 0), .int (iZ w), .int (iZ h), .int (iZ nm), .ref zd, .ref zb, .ref zt, .int (iZ n), .ref zs, .ref zc, .int (iZ fx), .int (iZ fy), .int (iZ fa), .int (iZ fb), .int (iZ fc), .int (iZ qr), .int (iZ fo), .ref zo]))] := hD
        refine lv_iload_n hx hb d_Mo_way_37 rfl (lv_at hl 0 rfl) ?_
        exact W.iret hx hb hr (fun t ht hW => ⟨⟨_, ((0, nm)), rfl, ⟨_, rfl, Or.inl ⟨by omega, rfl, rfl, rfl⟩⟩, by rw [ht]; exact hP, va_K.moved hW.alike hK, hD⟩, hS.F ht⟩) hS.2.2 d_Mo_way_38
      · exact absurd c_22 (by omega)
    · refine lv_iconst (v := iZ (1)) hx hb d_Mo_way_10 rfl ?_
      refine lv_goto (tgt := 15) hx hb d_Mo_way_11 (by decide) ?_
      refine va_put (D := (dC, dI)) (ci := 6) (v := .int (iZ 1)) (ty := .int) (C := R_Mo) (T := T_Mo) (N := 18) hx hb hts wi_Mo ty_Mo ty_Mo_ok nd_Mo hown hK hP hD hS 0 rfl rfl 0 (by decide) (hts _ t_684) (fun _ h9 => h9) rfl (by decide +kernel) rfl rfl (Nat.le_of_ble_eq_true rfl) d_Mo_way_15 (fun H locs hP hD hS => ?_)
      have hP : va_P (dC, dI) vwCl [(hm, .inr (6, [.int (iZ 1), .int (iZ w), .int (iZ h), .int (iZ mn), .ref zd, .ref zb, .ref zt, .int (iZ n), .ref zs, .ref zc, .int (iZ fx), .int (iZ fy), .int (iZ fa), .int (iZ fb), .int (iZ fc), .int (iZ qr), .int (iZ fo), .ref zo]))] H := hP
      have hD : va_D A [(hm, .inr (6, [.int (iZ 1), .int (iZ w), .int (iZ h), .int (iZ mn), .ref zd, .ref zb, .ref zt, .int (iZ n), .ref zs, .ref zc, .int (iZ fx), .int (iZ fy), .int (iZ fa), .int (iZ fb), .int (iZ fc), .int (iZ qr), .int (iZ fo), .ref zo]))] := hD
      refine lv_aload_n hx hb d_Mo_way_18 rfl (lv_at hl 0 rfl) ?_
      refine va_get (D := (dC, dI)) (ci := 6) (v := .int (iZ 1)) (C := R_Mo) (T := T_Mo) (N := 18) hx hb hts wi_Mo hown hK hP 0 rfl rfl 0 (by decide) (hts _ t_684) (fun _ h9 => h9) rfl d_Mo_way_19 ?_
      refine zi_if_le (tgt := 27) hx hb d_Mo_way_22 (by decide) (by omega) (by omega) (fun c_22 => ?_) (fun c_22 => ?_)
      · exact absurd c_22 (by omega)
      · refine lv_iconst (v := iZ (0)) hx hb d_Mo_way_25 rfl ?_
        exact W.iret hx hb hr (fun t ht hW => ⟨⟨_, ((1, mn)), rfl, ⟨_, rfl, Or.inr ⟨by omega, rfl, rfl⟩⟩, by rw [ht]; exact hP, va_K.moved hW.alike hK, hD⟩, hS.F ht⟩) hS.2.2 d_Mo_way_26
theorem d_Mo_wipe_0 : decode c_yMo_wipe 0 = .ok (.aload_n 0, 1) := by decide +kernel
theorem d_Mo_wipe_1 : decode c_yMo_wipe 1 = .ok (.iconst 0, 1) := by decide +kernel
theorem d_Mo_wipe_2 : decode c_yMo_wipe 2 = .ok (.putfield 37, 3) := by decide +kernel
theorem d_Mo_wipe_5 : decode c_yMo_wipe 5 = .ok (.aload_n 0, 1) := by decide +kernel
theorem d_Mo_wipe_6 : decode c_yMo_wipe 6 = .ok (.getfield 47, 3) := by decide +kernel
theorem d_Mo_wipe_9 : decode c_yMo_wipe 9 = .ok (.istore_n 1, 1) := by decide +kernel
theorem d_Mo_wipe_10 : decode c_yMo_wipe 10 = .ok (.aload_n 0, 1) := by decide +kernel
theorem d_Mo_wipe_11 : decode c_yMo_wipe 11 = .ok (.iconst 0, 1) := by decide +kernel
theorem d_Mo_wipe_12 : decode c_yMo_wipe 12 = .ok (.putfield 47, 3) := by decide +kernel
theorem d_Mo_wipe_15 : decode c_yMo_wipe 15 = .ok (.iload_n 1, 1) := by decide +kernel
theorem d_Mo_wipe_16 : decode c_yMo_wipe 16 = .ok (.ireturn, 1) := by decide +kernel
set_option maxHeartbeats 4000000 in
set_option maxRecDepth 100000 in
theorem c_Model_wipe (l : Launch) (dC : Nat → ClassId) (dI : Nat → Nat → Nat) (hm zd zb zt zs zc zo : Nat) (tw w h mn n fx fy fa fb fc qr fo : Int) (sz : Nat)  : Met l y_Mo_wipe w_Mo_wipe ({ frames := 0, cells := 0, slots := 0, locals := 0 }) (va_Pc [.ref hm] (zPm (dC, dI) vwCl [(hm, .inr (6, [.int (iZ tw), .int (iZ w), .int (iZ h), .int (iZ mn), .ref zd, .ref zb, .ref zt, .int (iZ n), .ref zs, .ref zc, .int (iZ fx), .int (iZ fy), .int (iZ fa), .int (iZ fb), .int (iZ fc), .int (iZ qr), .int (iZ fo), .ref zo]))] [] sz)) (va_Qi (fun (r : Int32) (u : Unit) => r = iZ n) (fun u => zB (dC, dI) vwCl [] (va_A [(hm, .inr (6, [.int (iZ tw), .int (iZ w), .int (iZ h), .int (iZ mn), .ref zd, .ref zb, .ref zt, .int (iZ n), .ref zs, .ref zc, .int (iZ fx), .int (iZ fy), .int (iZ fa), .int (iZ fb), .int (iZ fc), .int (iZ qr), .int (iZ fo), .ref zo]))] sz) [(hm, .inr (6, [.int (iZ 0), .int (iZ w), .int (iZ h), .int (iZ mn), .ref zd, .ref zb, .ref zt, .int (iZ 0), .ref zs, .ref zc, .int (iZ fx), .int (iZ fy), .int (iZ fa), .int (iZ fb), .int (iZ fc), .int (iZ qr), .int (iZ fo), .ref zo]))]) (va_A [(hm, .inr (6, [.int (iZ tw), .int (iZ w), .int (iZ h), .int (iZ mn), .ref zd, .ref zb, .ref zt, .int (iZ n), .ref zs, .ref zc, .int (iZ fx), .int (iZ fy), .int (iZ fa), .int (iZ fb), .int (iZ fc), .int (iZ qr), .int (iZ fo), .ref zo]))] sz)) 0 0 (va_A [(hm, .inr (6, [.int (iZ tw), .int (iZ w), .int (iZ h), .int (iZ mn), .ref zd, .ref zb, .ref zt, .int (iZ n), .ref zs, .ref zc, .int (iZ fx), .int (iZ fy), .int (iZ fa), .int (iZ fb), .int (iZ fc), .int (iZ qr), .int (iZ fo), .ref zo]))] sz) := by
  refine Met.ofW (cc := c_yMo_wipe) (maxL := 2) (ret := (some .int)) (by decide) rfl ?_
  intro p e s m args below meth c s₁ B hml hv
  obtain ⟨rfl, hsz, hP, hK, hD0⟩ := hv
  have hx := B.exec
  have hb := B.bytes
  have hr := B.returns
  have hts0 := atoms_spec (ws := w_Mo_wipe) B.pre
  have hts : ∀ w ∈ gT, w.before _ s = true := fun w h => hts0 w (List.mem_cons_of_mem _ h)
  have hown : s.vm.findClass R_Mo = some m.cls := findClass_of_methodNamed B.named
  have hlocks := B.notSynchronized
  subst hsz
  have hD := hD0.self (sz := s.heap.size)
  generalize hAe : va_A [(hm, .inr (6, [.int (iZ tw), .int (iZ w), .int (iZ h), .int (iZ mn), .ref zd, .ref zb, .ref zt, .int (iZ n), .ref zs, .ref zc, .int (iZ fx), .int (iZ fy), .int (iZ fa), .int (iZ fb), .int (iZ fc), .int (iZ qr), .int (iZ fo), .ref zo]))] s.heap.size = A at hD ⊢
  have hA : ∀ q : Nat, s.heap.size ≤ q → A q := fun q h => by rw [← hAe]; exact Or.inr h
  obtain ⟨H, hH⟩ : ∃ H, s.heap = H := ⟨_, rfl⟩
  have hS : va_S A s.heap H [] := by rw [← hH]; exact va_S.rf
  rw [hH] at hP
  rw [hH]
  have hl := lv_entry ([.ref hm]) (n := 2) (Nat.le_of_ble_eq_true rfl)
  rw [lg_entry_eq]
  generalize (lg_sl ([.ref hm]) ++ List.replicate (2 - (lg_sl ([.ref hm])).length) Slot.unset).toArray = ls at hl ⊢
  have hl : lv_has ls 2 [(0, .ref hm)] := hl
  refine lv_aload_n hx hb d_Mo_wipe_0 rfl (lv_at hl 0 rfl) ?_
  refine lv_iconst (v := iZ (0)) hx hb d_Mo_wipe_1 rfl ?_
  refine va_put (D := (dC, dI)) (ci := 6) (v := .int (iZ 0)) (ty := .int) (C := R_Mo) (T := T_Mo) (N := 18) hx hb hts wi_Mo ty_Mo ty_Mo_ok nd_Mo hown hK hP hD hS 0 rfl rfl 0 (by decide) (hts _ t_684) (fun _ h9 => h9) rfl (by decide +kernel) rfl rfl (Nat.le_of_ble_eq_true rfl) d_Mo_wipe_2 (fun H locs hP hD hS => ?_)
  have hP : va_P (dC, dI) vwCl [(hm, .inr (6, [.int (iZ 0), .int (iZ w), .int (iZ h), .int (iZ mn), .ref zd, .ref zb, .ref zt, .int (iZ n), .ref zs, .ref zc, .int (iZ fx), .int (iZ fy), .int (iZ fa), .int (iZ fb), .int (iZ fc), .int (iZ qr), .int (iZ fo), .ref zo]))] H := hP
  have hD : va_D A [(hm, .inr (6, [.int (iZ 0), .int (iZ w), .int (iZ h), .int (iZ mn), .ref zd, .ref zb, .ref zt, .int (iZ n), .ref zs, .ref zc, .int (iZ fx), .int (iZ fy), .int (iZ fa), .int (iZ fb), .int (iZ fc), .int (iZ qr), .int (iZ fo), .ref zo]))] := hD
  refine lv_aload_n hx hb d_Mo_wipe_5 rfl (lv_at hl 0 rfl) ?_
  refine va_get (D := (dC, dI)) (ci := 6) (v := .int (iZ n)) (C := R_Mo) (T := T_Mo) (N := 18) hx hb hts wi_Mo hown hK hP 0 rfl rfl 7 (by decide) (hts _ t_691) (fun _ h9 => h9) rfl d_Mo_wipe_6 ?_
  refine lv_istore_n (lv' := [(1, .int (iZ n)), (0, .ref hm)]) hx hb d_Mo_wipe_9 rfl hl (by decide) rfl (fun ls hl => ?_)
  refine lv_aload_n hx hb d_Mo_wipe_10 rfl (lv_at hl 1 rfl) ?_
  refine lv_iconst (v := iZ (0)) hx hb d_Mo_wipe_11 rfl ?_
  refine va_put (D := (dC, dI)) (ci := 6) (v := .int (iZ 0)) (ty := .int) (C := R_Mo) (T := T_Mo) (N := 18) hx hb hts wi_Mo ty_Mo ty_Mo_ok nd_Mo hown hK hP hD hS 0 rfl rfl 7 (by decide) (hts _ t_691) (fun _ h9 => h9) rfl (by decide +kernel) rfl rfl (Nat.le_of_ble_eq_true rfl) d_Mo_wipe_12 (fun H locs hP hD hS => ?_)
  have hP : va_P (dC, dI) vwCl [(hm, .inr (6, [.int (iZ 0), .int (iZ w), .int (iZ h), .int (iZ mn), .ref zd, .ref zb, .ref zt, .int (iZ 0), .ref zs, .ref zc, .int (iZ fx), .int (iZ fy), .int (iZ fa), .int (iZ fb), .int (iZ fc), .int (iZ qr), .int (iZ fo), .ref zo]))] H := hP
  have hD : va_D A [(hm, .inr (6, [.int (iZ 0), .int (iZ w), .int (iZ h), .int (iZ mn), .ref zd, .ref zb, .ref zt, .int (iZ 0), .ref zs, .ref zc, .int (iZ fx), .int (iZ fy), .int (iZ fa), .int (iZ fb), .int (iZ fc), .int (iZ qr), .int (iZ fo), .ref zo]))] := hD
  refine lv_iload_n hx hb d_Mo_wipe_15 rfl (lv_at hl 0 rfl) ?_
  exact W.iret hx hb hr (fun t ht hW => ⟨⟨_, (()), rfl, rfl, by rw [ht]; exact hP, va_K.moved hW.alike hK, hD⟩, hS.F ht⟩) hS.2.2 d_Mo_wipe_16
theorem d_Mo_write_0 : decode c_yMo_write 0 = .ok (.aload_n 0, 1) := by decide +kernel
theorem d_Mo_write_1 : decode c_yMo_write 1 = .ok (.iload_n 1, 1) := by decide +kernel
theorem d_Mo_write_2 : decode c_yMo_write 2 = .ok (.iconst 1, 1) := by decide +kernel
theorem d_Mo_write_3 : decode c_yMo_write 3 = .ok (.if_icmp .lt 9, 3) := by decide +kernel
theorem d_Mo_write_6 : decode c_yMo_write 6 = .ok (.iload_n 1, 1) := by decide +kernel
theorem d_Mo_write_7 : decode c_yMo_write 7 = .ok (.bipush 8, 2) := by decide +kernel
theorem d_Mo_write_9 : decode c_yMo_write 9 = .ok (.if_icmp .le 7, 3) := by decide +kernel
theorem d_Mo_write_12 : decode c_yMo_write 12 = .ok (.iconst 1, 1) := by decide +kernel
theorem d_Mo_write_13 : decode c_yMo_write 13 = .ok (.goto 4, 3) := by decide +kernel
theorem d_Mo_write_16 : decode c_yMo_write 16 = .ok (.iconst 0, 1) := by decide +kernel
theorem d_Mo_write_17 : decode c_yMo_write 17 = .ok (.putfield 37, 3) := by decide +kernel
theorem d_Mo_write_20 : decode c_yMo_write 20 = .ok (.aload_n 0, 1) := by decide +kernel
theorem d_Mo_write_21 : decode c_yMo_write 21 = .ok (.getfield 37, 3) := by decide +kernel
theorem d_Mo_write_24 : decode c_yMo_write 24 = .ok (.ifCond .le 5, 3) := by decide +kernel
theorem d_Mo_write_27 : decode c_yMo_write 27 = .ok (.iconst 0, 1) := by decide +kernel
theorem d_Mo_write_28 : decode c_yMo_write 28 = .ok (.ireturn, 1) := by decide +kernel
theorem d_Mo_write_29 : decode c_yMo_write 29 = .ok (.aload_n 0, 1) := by decide +kernel
theorem d_Mo_write_30 : decode c_yMo_write 30 = .ok (.getfield 47, 3) := by decide +kernel
theorem d_Mo_write_33 : decode c_yMo_write 33 = .ok (.iload_n 1, 1) := by decide +kernel
theorem d_Mo_write_34 : decode c_yMo_write 34 = .ok (.iadd, 1) := by decide +kernel
theorem d_Mo_write_35 : decode c_yMo_write 35 = .ok (.sipush 4096, 3) := by decide +kernel
theorem d_Mo_write_38 : decode c_yMo_write 38 = .ok (.if_icmp .le 5, 3) := by decide +kernel
theorem d_Mo_write_41 : decode c_yMo_write 41 = .ok (.iconst (-1), 1) := by decide +kernel
theorem d_Mo_write_42 : decode c_yMo_write 42 = .ok (.ireturn, 1) := by decide +kernel
theorem d_Mo_write_43 : decode c_yMo_write 43 = .ok (.iconst 0, 1) := by decide +kernel
theorem d_Mo_write_44 : decode c_yMo_write 44 = .ok (.istore 4, 2) := by decide +kernel
theorem d_Mo_write_46 : decode c_yMo_write 46 = .ok (.iload 4, 2) := by decide +kernel
theorem d_Mo_write_48 : decode c_yMo_write 48 = .ok (.iload_n 1, 1) := by decide +kernel
theorem d_Mo_write_49 : decode c_yMo_write 49 = .ok (.if_icmp .ge 40, 3) := by decide +kernel
theorem d_Mo_write_52 : decode c_yMo_write 52 = .ok (.aload_n 0, 1) := by decide +kernel
theorem d_Mo_write_53 : decode c_yMo_write 53 = .ok (.getfield 24, 3) := by decide +kernel
theorem d_Mo_write_56 : decode c_yMo_write 56 = .ok (.aload_n 0, 1) := by decide +kernel
theorem d_Mo_write_57 : decode c_yMo_write 57 = .ok (.getfield 47, 3) := by decide +kernel
theorem d_Mo_write_60 : decode c_yMo_write 60 = .ok (.lload_n 2, 1) := by decide +kernel
theorem d_Mo_write_61 : decode c_yMo_write 61 = .ok (.bipush 8, 2) := by decide +kernel
theorem d_Mo_write_63 : decode c_yMo_write 63 = .ok (.iload 4, 2) := by decide +kernel
theorem d_Mo_write_65 : decode c_yMo_write 65 = .ok (.imul, 1) := by decide +kernel
theorem d_Mo_write_66 : decode c_yMo_write 66 = .ok (.lshr, 1) := by decide +kernel
theorem d_Mo_write_67 : decode c_yMo_write 67 = .ok (.ldc2_w 50, 3) := by decide +kernel
theorem d_Mo_write_70 : decode c_yMo_write 70 = .ok (.land, 1) := by decide +kernel
theorem d_Mo_write_71 : decode c_yMo_write 71 = .ok (.l2i, 1) := by decide +kernel
theorem d_Mo_write_72 : decode c_yMo_write 72 = .ok (.iastore, 1) := by decide +kernel
theorem d_Mo_write_73 : decode c_yMo_write 73 = .ok (.aload_n 0, 1) := by decide +kernel
theorem d_Mo_write_74 : decode c_yMo_write 74 = .ok (.dup, 1) := by decide +kernel
theorem d_Mo_write_75 : decode c_yMo_write 75 = .ok (.getfield 47, 3) := by decide +kernel
theorem d_Mo_write_78 : decode c_yMo_write 78 = .ok (.iconst 1, 1) := by decide +kernel
theorem d_Mo_write_79 : decode c_yMo_write 79 = .ok (.iadd, 1) := by decide +kernel
theorem d_Mo_write_80 : decode c_yMo_write 80 = .ok (.putfield 47, 3) := by decide +kernel
theorem d_Mo_write_83 : decode c_yMo_write 83 = .ok (.iinc 4 1, 3) := by decide +kernel
theorem d_Mo_write_86 : decode c_yMo_write 86 = .ok (.goto (-40), 3) := by decide +kernel
theorem d_Mo_write_89 : decode c_yMo_write 89 = .ok (.aload_n 0, 1) := by decide +kernel
theorem d_Mo_write_90 : decode c_yMo_write 90 = .ok (.getfield 47, 3) := by decide +kernel
theorem d_Mo_write_93 : decode c_yMo_write 93 = .ok (.ireturn, 1) := by decide +kernel
set_option maxHeartbeats 4000000 in
set_option maxRecDepth 100000 in
theorem c_Model_write (l : Launch) (dC : Nat → ClassId) (dI : Nat → Nat → Nat) (hm zd zb zt zs zc zo : Nat) (tw w h mn n fx fy fa fb fc qr fo : Int) (cI : ClassId) (Dt : Int → Int32) (dr : Int → Int) (a : Int) (v : Int64) (sz : Nat) (n1 : 0 ≤ n) (n2 : n ≤ 4096) (hT : RepT Dt n dr) (a1 : -2147483648 ≤ a) (a2 : a ≤ 2147483647) : Met l y_Mo_write w_Mo_write ({ frames := 0, cells := 0, slots := 0, locals := 0 }) (va_Pc [.ref hm, .int (iZ a), .long v] (zPm (dC, dI) vwCl [(hm, .inr (6, [.int (iZ tw), .int (iZ w), .int (iZ h), .int (iZ mn), .ref zd, .ref zb, .ref zt, .int (iZ n), .ref zs, .ref zc, .int (iZ fx), .int (iZ fy), .int (iZ fa), .int (iZ fb), .int (iZ fc), .int (iZ qr), .int (iZ fo), .ref zo])), (zt, .inl (cI, 4096, .inl (aI Dt)))] [(cI, .int)] sz)) (va_Qi (fun (r : Int32) (u : Int × Int × (Int → Int32)) => ∃ z : Int, r = iZ z ∧ (((1 ≤ a ∧ a ≤ 8) ∧ u.1 = 0 ∧ z = (if n + a ≤ 4096 then n + a else -1) ∧ (n + a ≤ 4096 → u.2.1 = n + a ∧ RepT u.2.2 (n + a) (fun j => if j < n then dr j else bOf v (j - n))) ∧ (¬ n + a ≤ 4096 → u.2.1 = n ∧ u.2.2 = Dt)) ∨ (¬ (1 ≤ a ∧ a ≤ 8) ∧ u.1 = 1 ∧ u.2.1 = n ∧ u.2.2 = Dt))) (fun u => zB (dC, dI) vwCl [(cI, .int)] (va_A [(hm, .inr (6, [.int (iZ tw), .int (iZ w), .int (iZ h), .int (iZ mn), .ref zd, .ref zb, .ref zt, .int (iZ n), .ref zs, .ref zc, .int (iZ fx), .int (iZ fy), .int (iZ fa), .int (iZ fb), .int (iZ fc), .int (iZ qr), .int (iZ fo), .ref zo])), (zt, .inl (cI, 4096, .inl (aI Dt)))] sz) [(hm, .inr (6, [.int (iZ u.1), .int (iZ w), .int (iZ h), .int (iZ mn), .ref zd, .ref zb, .ref zt, .int (iZ u.2.1), .ref zs, .ref zc, .int (iZ fx), .int (iZ fy), .int (iZ fa), .int (iZ fb), .int (iZ fc), .int (iZ qr), .int (iZ fo), .ref zo])), (zt, .inl (cI, 4096, .inl (aI u.2.2)))]) (va_A [(hm, .inr (6, [.int (iZ tw), .int (iZ w), .int (iZ h), .int (iZ mn), .ref zd, .ref zb, .ref zt, .int (iZ n), .ref zs, .ref zc, .int (iZ fx), .int (iZ fy), .int (iZ fa), .int (iZ fb), .int (iZ fc), .int (iZ qr), .int (iZ fo), .ref zo])), (zt, .inl (cI, 4096, .inl (aI Dt)))] sz)) 0 0 (va_A [(hm, .inr (6, [.int (iZ tw), .int (iZ w), .int (iZ h), .int (iZ mn), .ref zd, .ref zb, .ref zt, .int (iZ n), .ref zs, .ref zc, .int (iZ fx), .int (iZ fy), .int (iZ fa), .int (iZ fb), .int (iZ fc), .int (iZ qr), .int (iZ fo), .ref zo])), (zt, .inl (cI, 4096, .inl (aI Dt)))] sz) := by
  refine Met.ofW (cc := c_yMo_write) (maxL := 5) (ret := (some .int)) (by decide) rfl ?_
  intro p e s m args below meth c s₁ B hml hv
  obtain ⟨rfl, hsz, hP, hK, hD0⟩ := hv
  have hx := B.exec
  have hb := B.bytes
  have hr := B.returns
  have hts0 := atoms_spec (ws := w_Mo_write) B.pre
  have hts : ∀ w ∈ gT, w.before _ s = true := fun w h => hts0 w (List.mem_cons_of_mem _ h)
  have hown : s.vm.findClass R_Mo = some m.cls := findClass_of_methodNamed B.named
  have hlocks := B.notSynchronized
  subst hsz
  have hD := hD0.self (sz := s.heap.size)
  generalize hAe : va_A [(hm, .inr (6, [.int (iZ tw), .int (iZ w), .int (iZ h), .int (iZ mn), .ref zd, .ref zb, .ref zt, .int (iZ n), .ref zs, .ref zc, .int (iZ fx), .int (iZ fy), .int (iZ fa), .int (iZ fb), .int (iZ fc), .int (iZ qr), .int (iZ fo), .ref zo])), (zt, .inl (cI, 4096, .inl (aI Dt)))] s.heap.size = A at hD ⊢
  have hA : ∀ q : Nat, s.heap.size ≤ q → A q := fun q h => by rw [← hAe]; exact Or.inr h
  obtain ⟨H, hH⟩ : ∃ H, s.heap = H := ⟨_, rfl⟩
  have hS : va_S A s.heap H [] := by rw [← hH]; exact va_S.rf
  rw [hH] at hP
  rw [hH]
  have hl := lv_entry ([.ref hm, .int (iZ a), .long v]) (n := 5) (Nat.le_of_ble_eq_true rfl)
  rw [lg_entry_eq]
  generalize (lg_sl ([.ref hm, .int (iZ a), .long v]) ++ List.replicate (5 - (lg_sl ([.ref hm, .int (iZ a), .long v])).length) Slot.unset).toArray = ls at hl ⊢
  have hl : lv_has ls 5 [(0, .ref hm), (1, .int (iZ a)), (2, .long v)] := hl
  refine lv_aload_n hx hb d_Mo_write_0 rfl (lv_at hl 0 rfl) ?_
  refine lv_iload_n hx hb d_Mo_write_1 rfl (lv_at hl 1 rfl) ?_
  refine lv_iconst (v := iZ (1)) hx hb d_Mo_write_2 rfl ?_
  refine zi_lt (tgt := 12) hx hb d_Mo_write_3 (by decide) (by omega) (by omega) (by omega) (by omega) (fun c_3 => ?_) (fun c_3 => ?_)
  · refine lv_iconst (v := iZ (1)) hx hb d_Mo_write_12 rfl ?_
    refine lv_goto (tgt := 17) hx hb d_Mo_write_13 (by decide) ?_
    refine va_put (D := (dC, dI)) (ci := 6) (v := .int (iZ 1)) (ty := .int) (C := R_Mo) (T := T_Mo) (N := 18) hx hb hts wi_Mo ty_Mo ty_Mo_ok nd_Mo hown hK hP hD hS 0 rfl rfl 0 (by decide) (hts _ t_684) (fun _ h9 => h9) rfl (by decide +kernel) rfl rfl (Nat.le_of_ble_eq_true rfl) d_Mo_write_17 (fun H locs hP hD hS => ?_)
    have hP : va_P (dC, dI) vwCl [(hm, .inr (6, [.int (iZ 1), .int (iZ w), .int (iZ h), .int (iZ mn), .ref zd, .ref zb, .ref zt, .int (iZ n), .ref zs, .ref zc, .int (iZ fx), .int (iZ fy), .int (iZ fa), .int (iZ fb), .int (iZ fc), .int (iZ qr), .int (iZ fo), .ref zo])), (zt, .inl (cI, 4096, .inl (aI Dt)))] H := hP
    have hD : va_D A [(hm, .inr (6, [.int (iZ 1), .int (iZ w), .int (iZ h), .int (iZ mn), .ref zd, .ref zb, .ref zt, .int (iZ n), .ref zs, .ref zc, .int (iZ fx), .int (iZ fy), .int (iZ fa), .int (iZ fb), .int (iZ fc), .int (iZ qr), .int (iZ fo), .ref zo])), (zt, .inl (cI, 4096, .inl (aI Dt)))] := hD
    refine lv_aload_n hx hb d_Mo_write_20 rfl (lv_at hl 0 rfl) ?_
    refine va_get (D := (dC, dI)) (ci := 6) (v := .int (iZ 1)) (C := R_Mo) (T := T_Mo) (N := 18) hx hb hts wi_Mo hown hK hP 0 rfl rfl 0 (by decide) (hts _ t_684) (fun _ h9 => h9) rfl d_Mo_write_21 ?_
    refine zi_if_le (tgt := 29) hx hb d_Mo_write_24 (by decide) (by omega) (by omega) (fun c_24 => ?_) (fun c_24 => ?_)
    · exact absurd c_24 (by omega)
    · refine lv_iconst (v := iZ (0)) hx hb d_Mo_write_27 rfl ?_
      exact W.iret hx hb hr (fun t ht hW => ⟨⟨_, ((1, n, Dt)), rfl, ⟨_, rfl, Or.inr ⟨by omega, rfl, rfl, rfl⟩⟩, by rw [ht]; exact hP, va_K.moved hW.alike hK, hD⟩, hS.F ht⟩) hS.2.2 d_Mo_write_28
  · refine lv_iload_n hx hb d_Mo_write_6 rfl (lv_at hl 1 rfl) ?_
    refine lv_bipush (v := iZ (8)) hx hb d_Mo_write_7 (by decide) ?_
    refine zi_le (tgt := 16) hx hb d_Mo_write_9 (by decide) (by omega) (by omega) (by omega) (by omega) (fun c_9 => ?_) (fun c_9 => ?_)
    · refine lv_iconst (v := iZ (0)) hx hb d_Mo_write_16 rfl ?_
      refine va_put (D := (dC, dI)) (ci := 6) (v := .int (iZ 0)) (ty := .int) (C := R_Mo) (T := T_Mo) (N := 18) hx hb hts wi_Mo ty_Mo ty_Mo_ok nd_Mo hown hK hP hD hS 0 rfl rfl 0 (by decide) (hts _ t_684) (fun _ h9 => h9) rfl (by decide +kernel) rfl rfl (Nat.le_of_ble_eq_true rfl) d_Mo_write_17 (fun H locs hP hD hS => ?_)
      have hP : va_P (dC, dI) vwCl [(hm, .inr (6, [.int (iZ 0), .int (iZ w), .int (iZ h), .int (iZ mn), .ref zd, .ref zb, .ref zt, .int (iZ n), .ref zs, .ref zc, .int (iZ fx), .int (iZ fy), .int (iZ fa), .int (iZ fb), .int (iZ fc), .int (iZ qr), .int (iZ fo), .ref zo])), (zt, .inl (cI, 4096, .inl (aI Dt)))] H := hP
      have hD : va_D A [(hm, .inr (6, [.int (iZ 0), .int (iZ w), .int (iZ h), .int (iZ mn), .ref zd, .ref zb, .ref zt, .int (iZ n), .ref zs, .ref zc, .int (iZ fx), .int (iZ fy), .int (iZ fa), .int (iZ fb), .int (iZ fc), .int (iZ qr), .int (iZ fo), .ref zo])), (zt, .inl (cI, 4096, .inl (aI Dt)))] := hD
      refine lv_aload_n hx hb d_Mo_write_20 rfl (lv_at hl 0 rfl) ?_
      refine va_get (D := (dC, dI)) (ci := 6) (v := .int (iZ 0)) (C := R_Mo) (T := T_Mo) (N := 18) hx hb hts wi_Mo hown hK hP 0 rfl rfl 0 (by decide) (hts _ t_684) (fun _ h9 => h9) rfl d_Mo_write_21 ?_
      refine zi_if_le (tgt := 29) hx hb d_Mo_write_24 (by decide) (by omega) (by omega) (fun c_24 => ?_) (fun c_24 => ?_)
      · refine lv_aload_n hx hb d_Mo_write_29 rfl (lv_at hl 0 rfl) ?_
        refine va_get (D := (dC, dI)) (ci := 6) (v := .int (iZ n)) (C := R_Mo) (T := T_Mo) (N := 18) hx hb hts wi_Mo hown hK hP 0 rfl rfl 7 (by decide) (hts _ t_691) (fun _ h9 => h9) rfl d_Mo_write_30 ?_
        refine lv_iload_n hx hb d_Mo_write_33 rfl (lv_at hl 1 rfl) ?_
        refine zi_add hx hb d_Mo_write_34 ?_
        refine lv_sipush (v := iZ (4096)) hx hb d_Mo_write_35 (by decide) ?_
        refine zi_le (tgt := 43) hx hb d_Mo_write_38 (by decide) (by omega) (by omega) (by omega) (by omega) (fun c_38 => ?_) (fun c_38 => ?_)
        · refine lv_iconst (v := iZ (0)) hx hb d_Mo_write_43 rfl ?_
          refine lv_istore (lv' := [(4, .int (iZ 0)), (0, .ref hm), (1, .int (iZ a)), (2, .long v)]) hx hb d_Mo_write_44 hl (by decide) rfl (fun ls hl => ?_)
          have LP_46 : ∀ (n_46 : Nat) (k : Int) (nn : Int) (K : Int → Int32), (0 ≤ k) → (k ≤ a) → (nn = n + k) → (RepT K (n + k) (fun j => if j < n then dr j else bOf v (j - n))) → (a - k).toNat < n_46 → ∀ (H : Heap) (locs : List Loc), va_P (dC, dI) vwCl [(hm, .inr (6, [.int (iZ 0), .int (iZ w), .int (iZ h), .int (iZ mn), .ref zd, .ref zb, .ref zt, .int (iZ nn), .ref zs, .ref zc, .int (iZ fx), .int (iZ fy), .int (iZ fa), .int (iZ fb), .int (iZ fc), .int (iZ qr), .int (iZ fo), .ref zo])), (zt, .inl (cI, 4096, .inl (aI K)))] H → va_D A [(hm, .inr (6, [.int (iZ 0), .int (iZ w), .int (iZ h), .int (iZ mn), .ref zd, .ref zb, .ref zt, .int (iZ nn), .ref zs, .ref zc, .int (iZ fx), .int (iZ fy), .int (iZ fa), .int (iZ fb), .int (iZ fc), .int (iZ qr), .int (iZ fo), .ref zo])), (zt, .inl (cI, 4096, .inl (aI K)))] → va_S A s.heap H locs → ∀ (ls : Array Slot), lv_has ls 5 [(0, .ref hm), (1, .int (iZ a)), (2, .long v), (4, .int (iZ k))] → W p l e ({ frames := 0, cells := 0, slots := 0, locals := 0 } : Room) s m ([.ref hm, .int (iZ a), .long v] : List Value).toArray below meth c H locs 0 0 (MQ below (va_Qi (fun (r : Int32) (u : Int × Int × (Int → Int32)) => ∃ z : Int, r = iZ z ∧ (((1 ≤ a ∧ a ≤ 8) ∧ u.1 = 0 ∧ z = (if n + a ≤ 4096 then n + a else -1) ∧ (n + a ≤ 4096 → u.2.1 = n + a ∧ RepT u.2.2 (n + a) (fun j => if j < n then dr j else bOf v (j - n))) ∧ (¬ n + a ≤ 4096 → u.2.1 = n ∧ u.2.2 = Dt)) ∨ (¬ (1 ≤ a ∧ a ≤ 8) ∧ u.1 = 1 ∧ u.2.1 = n ∧ u.2.2 = Dt))) (fun u => zB (dC, dI) vwCl [(cI, .int)] A [(hm, .inr (6, [.int (iZ u.1), .int (iZ w), .int (iZ h), .int (iZ mn), .ref zd, .ref zb, .ref zt, .int (iZ u.2.1), .ref zs, .ref zc, .int (iZ fx), .int (iZ fy), .int (iZ fa), .int (iZ fb), .int (iZ fc), .int (iZ qr), .int (iZ fo), .ref zo])), (zt, .inl (cI, 4096, .inl (aI u.2.2)))]) A) ([.ref hm, .int (iZ a), .long v] : List Value).toArray s 0 0 A) (F0 m 46 ls []) := by
            intro n_46
            induction n_46 with
            | zero => intro k nn K i1 i2 i4 i3 hm; exact absurd hm (by omega)
            | succ n_46 ih_46 =>
              intro k nn K i1 i2 i4 i3 hm_46 H locs hP hD hS ls hl
              refine lv_iload hx hb d_Mo_write_46 (lv_at hl 3 rfl) ?_
              refine lv_iload_n hx hb d_Mo_write_48 rfl (lv_at hl 1 rfl) ?_
              refine zi_ge (tgt := 89) hx hb d_Mo_write_49 (by decide) (by omega) (by omega) (by omega) (by omega) (fun c_49 => ?_) (fun c_49 => ?_)
              · refine lv_aload_n hx hb d_Mo_write_89 rfl (lv_at hl 0 rfl) ?_
                refine va_get (D := (dC, dI)) (ci := 6) (v := .int (iZ nn)) (C := R_Mo) (T := T_Mo) (N := 18) hx hb hts wi_Mo hown hK hP 0 rfl rfl 7 (by decide) (hts _ t_691) (fun _ h9 => h9) rfl d_Mo_write_90 ?_
                exact W.iret hx hb hr (fun t ht hW => ⟨⟨_, ((0, nn, K)), rfl, ⟨_, rfl, Or.inl ⟨by omega, rfl, by rw [if_pos (by omega)]; omega, fun _ => ⟨by show nn = _; omega, by rw [show n + a = n + k by omega]; exact i3⟩, fun q9 => absurd q9 (by omega)⟩⟩, by rw [ht]; exact hP, va_K.moved hW.alike hK, hD⟩, hS.F ht⟩) hS.2.2 d_Mo_write_93
              · refine lv_aload_n hx hb d_Mo_write_52 rfl (lv_at hl 0 rfl) ?_
                refine va_get (D := (dC, dI)) (ci := 6) (v := .ref zt) (C := R_Mo) (T := T_Mo) (N := 18) hx hb hts wi_Mo hown hK hP 0 rfl rfl 6 (by decide) (hts _ t_690) (fun _ h9 => h9) rfl d_Mo_write_53 ?_
                refine lv_aload_n hx hb d_Mo_write_56 rfl (lv_at hl 0 rfl) ?_
                refine va_get (D := (dC, dI)) (ci := 6) (v := .int (iZ nn)) (C := R_Mo) (T := T_Mo) (N := 18) hx hb hts wi_Mo hown hK hP 0 rfl rfl 7 (by decide) (hts _ t_691) (fun _ h9 => h9) rfl d_Mo_write_57 ?_
                refine lv_lload_n hx hb d_Mo_write_60 rfl (lv_at hl 2 rfl) ?_
                refine lv_bipush (v := iZ (8)) hx hb d_Mo_write_61 (by decide) ?_
                refine lv_iload hx hb d_Mo_write_63 (lv_at hl 3 rfl) ?_
                refine zi_mul hx hb d_Mo_write_65 ?_
                refine lv_lshr hx hb d_Mo_write_66 rfl ?_
                refine lv_ldc2 (v := lZ (255)) hx hb hown (hts _ t_756) d_Mo_write_67 ?_
                refine lv_land hx hb d_Mo_write_70 ?_
                refine lv_l2i hx hb d_Mo_write_71 rfl ?_
                refine z_iast hx hb hK hP hD hS 1 0 rfl rfl (by omega) (by omega) (by omega) d_Mo_write_72 (fun H locs hP hD hS => ?_)
                have hP : va_P (dC, dI) vwCl [(hm, .inr (6, [.int (iZ 0), .int (iZ w), .int (iZ h), .int (iZ mn), .ref zd, .ref zb, .ref zt, .int (iZ nn), .ref zs, .ref zc, .int (iZ fx), .int (iZ fy), .int (iZ fa), .int (iZ fb), .int (iZ fc), .int (iZ qr), .int (iZ fo), .ref zo])), (zt, .inl (cI, 4096, .inl (aI (upZ K nn (((v >>> (((iZ (8 * k))).toInt64 &&& 63)) &&& (lZ 255)).toInt32)))))] H := hP
                have hD : va_D A [(hm, .inr (6, [.int (iZ 0), .int (iZ w), .int (iZ h), .int (iZ mn), .ref zd, .ref zb, .ref zt, .int (iZ nn), .ref zs, .ref zc, .int (iZ fx), .int (iZ fy), .int (iZ fa), .int (iZ fb), .int (iZ fc), .int (iZ qr), .int (iZ fo), .ref zo])), (zt, .inl (cI, 4096, .inl (aI (upZ K nn (((v >>> (((iZ (8 * k))).toInt64 &&& 63)) &&& (lZ 255)).toInt32)))))] := hD
                refine lv_aload_n hx hb d_Mo_write_73 rfl (lv_at hl 0 rfl) ?_
                refine lv_dup hx hb d_Mo_write_74 rfl ?_
                refine va_get (D := (dC, dI)) (ci := 6) (v := .int (iZ nn)) (C := R_Mo) (T := T_Mo) (N := 18) hx hb hts wi_Mo hown hK hP 0 rfl rfl 7 (by decide) (hts _ t_691) (fun _ h9 => h9) rfl d_Mo_write_75 ?_
                refine lv_iconst (v := iZ (1)) hx hb d_Mo_write_78 rfl ?_
                refine zi_add hx hb d_Mo_write_79 ?_
                refine va_put (D := (dC, dI)) (ci := 6) (v := .int (iZ (nn + 1))) (ty := .int) (C := R_Mo) (T := T_Mo) (N := 18) hx hb hts wi_Mo ty_Mo ty_Mo_ok nd_Mo hown hK hP hD hS 0 rfl rfl 7 (by decide) (hts _ t_691) (fun _ h9 => h9) rfl (by decide +kernel) rfl rfl (Nat.le_of_ble_eq_true rfl) d_Mo_write_80 (fun H locs hP hD hS => ?_)
                have hP : va_P (dC, dI) vwCl [(hm, .inr (6, [.int (iZ 0), .int (iZ w), .int (iZ h), .int (iZ mn), .ref zd, .ref zb, .ref zt, .int (iZ (nn + 1)), .ref zs, .ref zc, .int (iZ fx), .int (iZ fy), .int (iZ fa), .int (iZ fb), .int (iZ fc), .int (iZ qr), .int (iZ fo), .ref zo])), (zt, .inl (cI, 4096, .inl (aI (upZ K nn (((v >>> (((iZ (8 * k))).toInt64 &&& 63)) &&& (lZ 255)).toInt32)))))] H := hP
                have hD : va_D A [(hm, .inr (6, [.int (iZ 0), .int (iZ w), .int (iZ h), .int (iZ mn), .ref zd, .ref zb, .ref zt, .int (iZ (nn + 1)), .ref zs, .ref zc, .int (iZ fx), .int (iZ fy), .int (iZ fa), .int (iZ fb), .int (iZ fc), .int (iZ qr), .int (iZ fo), .ref zo])), (zt, .inl (cI, 4096, .inl (aI (upZ K nn (((v >>> (((iZ (8 * k))).toInt64 &&& 63)) &&& (lZ 255)).toInt32)))))] := hD
                refine lv_iinc (v := iZ (k + 1)) (lv' := [(4, .int (iZ (k + 1))), (0, .ref hm), (1, .int (iZ a)), (2, .long v)]) hx hb d_Mo_write_83 hl (k := 3) rfl (iZ_add _ _) (by decide) rfl (fun ls hl => ?_)
                refine lv_goto (tgt := 46) hx hb d_Mo_write_86 (by decide) ?_
                exact ih_46 (k + 1) (nn + 1) (upZ K nn (((v >>> (((iZ (8 * k))).toInt64 &&& 63)) &&& (lZ 255)).toInt32)) (by omega) (by omega) (by omega) (by rw [i4, show n + (k + 1) = n + k + 1 by omega]; exact rt_step n1 i1 (by omega) i3) (by omega) _ _ hP hD hS ls (lv_sub hl [1, 2, 3, 0] rfl)
          exact LP_46 _ 0 n Dt (by omega) (by omega) (by omega) (fun j j1 j2 => by show _ = iZ (if j < n then _ else _) ∧ 0 ≤ (if j < n then _ else _) ∧ (if j < n then _ else _) ≤ 255; rw [if_pos (by omega)]; exact hT j j1 (by omega)) (Nat.lt_succ_self _) _ _ hP hD hS ls (lv_sub hl [1, 2, 3, 0] rfl)
        · refine lv_iconst (v := iZ (-1)) hx hb d_Mo_write_41 rfl ?_
          exact W.iret hx hb hr (fun t ht hW => ⟨⟨_, ((0, n, Dt)), rfl, ⟨_, rfl, Or.inl ⟨by omega, rfl, by rw [if_neg (by omega)], fun q9 => absurd q9 (by omega), fun _ => ⟨rfl, rfl⟩⟩⟩, by rw [ht]; exact hP, va_K.moved hW.alike hK, hD⟩, hS.F ht⟩) hS.2.2 d_Mo_write_42
      · exact absurd c_24 (by omega)
    · refine lv_iconst (v := iZ (1)) hx hb d_Mo_write_12 rfl ?_
      refine lv_goto (tgt := 17) hx hb d_Mo_write_13 (by decide) ?_
      refine va_put (D := (dC, dI)) (ci := 6) (v := .int (iZ 1)) (ty := .int) (C := R_Mo) (T := T_Mo) (N := 18) hx hb hts wi_Mo ty_Mo ty_Mo_ok nd_Mo hown hK hP hD hS 0 rfl rfl 0 (by decide) (hts _ t_684) (fun _ h9 => h9) rfl (by decide +kernel) rfl rfl (Nat.le_of_ble_eq_true rfl) d_Mo_write_17 (fun H locs hP hD hS => ?_)
      have hP : va_P (dC, dI) vwCl [(hm, .inr (6, [.int (iZ 1), .int (iZ w), .int (iZ h), .int (iZ mn), .ref zd, .ref zb, .ref zt, .int (iZ n), .ref zs, .ref zc, .int (iZ fx), .int (iZ fy), .int (iZ fa), .int (iZ fb), .int (iZ fc), .int (iZ qr), .int (iZ fo), .ref zo])), (zt, .inl (cI, 4096, .inl (aI Dt)))] H := hP
      have hD : va_D A [(hm, .inr (6, [.int (iZ 1), .int (iZ w), .int (iZ h), .int (iZ mn), .ref zd, .ref zb, .ref zt, .int (iZ n), .ref zs, .ref zc, .int (iZ fx), .int (iZ fy), .int (iZ fa), .int (iZ fb), .int (iZ fc), .int (iZ qr), .int (iZ fo), .ref zo])), (zt, .inl (cI, 4096, .inl (aI Dt)))] := hD
      refine lv_aload_n hx hb d_Mo_write_20 rfl (lv_at hl 0 rfl) ?_
      refine va_get (D := (dC, dI)) (ci := 6) (v := .int (iZ 1)) (C := R_Mo) (T := T_Mo) (N := 18) hx hb hts wi_Mo hown hK hP 0 rfl rfl 0 (by decide) (hts _ t_684) (fun _ h9 => h9) rfl d_Mo_write_21 ?_
      refine zi_if_le (tgt := 29) hx hb d_Mo_write_24 (by decide) (by omega) (by omega) (fun c_24 => ?_) (fun c_24 => ?_)
      · exact absurd c_24 (by omega)
      · refine lv_iconst (v := iZ (0)) hx hb d_Mo_write_27 rfl ?_
        exact W.iret hx hb hr (fun t ht hW => ⟨⟨_, ((1, n, Dt)), rfl, ⟨_, rfl, Or.inr ⟨by omega, rfl, rfl, rfl⟩⟩, by rw [ht]; exact hP, va_K.moved hW.alike hK, hD⟩, hS.F ht⟩) hS.2.2 d_Mo_write_28
theorem d_Mo_bit_0 : decode c_yMo_bit 0 = .ok (.aload_n 0, 1) := by decide +kernel
theorem d_Mo_bit_1 : decode c_yMo_bit 1 = .ok (.getfield 24, 3) := by decide +kernel
theorem d_Mo_bit_4 : decode c_yMo_bit 4 = .ok (.iload_n 1, 1) := by decide +kernel
theorem d_Mo_bit_5 : decode c_yMo_bit 5 = .ok (.bipush 8, 2) := by decide +kernel
theorem d_Mo_bit_7 : decode c_yMo_bit 7 = .ok (.idiv, 1) := by decide +kernel
theorem d_Mo_bit_8 : decode c_yMo_bit 8 = .ok (.iaload, 1) := by decide +kernel
theorem d_Mo_bit_9 : decode c_yMo_bit 9 = .ok (.bipush 7, 2) := by decide +kernel
theorem d_Mo_bit_11 : decode c_yMo_bit 11 = .ok (.iload_n 1, 1) := by decide +kernel
theorem d_Mo_bit_12 : decode c_yMo_bit 12 = .ok (.bipush 8, 2) := by decide +kernel
theorem d_Mo_bit_14 : decode c_yMo_bit 14 = .ok (.irem, 1) := by decide +kernel
theorem d_Mo_bit_15 : decode c_yMo_bit 15 = .ok (.isub, 1) := by decide +kernel
theorem d_Mo_bit_16 : decode c_yMo_bit 16 = .ok (.ishr, 1) := by decide +kernel
theorem d_Mo_bit_17 : decode c_yMo_bit 17 = .ok (.iconst 1, 1) := by decide +kernel
theorem d_Mo_bit_18 : decode c_yMo_bit 18 = .ok (.iand, 1) := by decide +kernel
theorem d_Mo_bit_19 : decode c_yMo_bit 19 = .ok (.iconst 1, 1) := by decide +kernel
theorem d_Mo_bit_20 : decode c_yMo_bit 20 = .ok (.if_icmp .ne 7, 3) := by decide +kernel
theorem d_Mo_bit_23 : decode c_yMo_bit 23 = .ok (.iconst 1, 1) := by decide +kernel
theorem d_Mo_bit_24 : decode c_yMo_bit 24 = .ok (.goto 4, 3) := by decide +kernel
theorem d_Mo_bit_27 : decode c_yMo_bit 27 = .ok (.iconst 0, 1) := by decide +kernel
theorem d_Mo_bit_28 : decode c_yMo_bit 28 = .ok (.ireturn, 1) := by decide +kernel
set_option maxHeartbeats 4000000 in
set_option maxRecDepth 100000 in
theorem c_Model_bit (l : Launch) (dC : Nat → ClassId) (dI : Nat → Nat → Nat) (hm zd zb zt zs zc zo : Nat) (tw w h mn n fx fy fa fb fc qr fo : Int) (cI : ClassId) (Dt : Int → Int32) (dr : Int → Int) (k : Int) (n1 : 0 ≤ n) (n2 : n ≤ 4096) (hT : RepT Dt n dr) (k1 : 0 ≤ k) (k2 : k < 8 * n) : Met l y_Mo_bit w_Mo_bit ({ frames := 0, cells := 0, slots := 0, locals := 0 }) (va_Pc [.ref hm, .int (iZ k)] (zPr (dC, dI) vwCl [(hm, .inr (6, [.int (iZ tw), .int (iZ w), .int (iZ h), .int (iZ mn), .ref zd, .ref zb, .ref zt, .int (iZ n), .ref zs, .ref zc, .int (iZ fx), .int (iZ fy), .int (iZ fa), .int (iZ fb), .int (iZ fc), .int (iZ qr), .int (iZ fo), .ref zo])), (zt, .inl (cI, 4096, .inl (aI Dt)))] [(cI, .int)])) (vp_Si (fun r => r = bI (pcD dr k))) 0 0 (fun _ => False) := by
  refine Met.ofW (cc := c_yMo_bit) (maxL := 2) (ret := (some .boolean)) (by decide) rfl ?_
  intro p e s m args below meth c s₁ B hml hv
  obtain ⟨rfl, hP, hK⟩ := hv
  have hx := B.exec
  have hb := B.bytes
  have hr := B.returns
  have hts0 := atoms_spec (ws := w_Mo_bit) B.pre
  have hts : ∀ w ∈ gT, w.before _ s = true := fun w h => hts0 w (List.mem_cons_of_mem _ h)
  have hown : s.vm.findClass R_Mo = some m.cls := findClass_of_methodNamed B.named
  have hlocks := B.notSynchronized
  have hl := lv_entry ([.ref hm, .int (iZ k)]) (n := 2) (Nat.le_of_ble_eq_true rfl)
  rw [lg_entry_eq]
  generalize (lg_sl ([.ref hm, .int (iZ k)]) ++ List.replicate (2 - (lg_sl ([.ref hm, .int (iZ k)])).length) Slot.unset).toArray = ls at hl ⊢
  have hl : lv_has ls 2 [(0, .ref hm), (1, .int (iZ k))] := hl
  refine lv_aload_n hx hb d_Mo_bit_0 rfl (lv_at hl 0 rfl) ?_
  refine va_get (D := (dC, dI)) (ci := 6) (v := .ref zt) (C := R_Mo) (T := T_Mo) (N := 18) hx hb hts wi_Mo hown hK hP 0 rfl rfl 6 (by decide) (hts _ t_690) (fun _ h9 => h9) rfl d_Mo_bit_1 ?_
  refine lv_iload_n hx hb d_Mo_bit_4 rfl (lv_at hl 1 rfl) ?_
  refine lv_bipush (v := iZ (8)) hx hb d_Mo_bit_5 (by decide) ?_
  refine zi_div hx hb d_Mo_bit_7 (by omega) (by omega) (by omega) (by omega) ?_
  refine z_iald hx hb hK hP 1 0 rfl rfl (by omega) (by omega) (by omega) d_Mo_bit_8 ?_
  have b9 := (hT (k / 8) (by omega) (by omega)).2
  refine zn_eq (v2 := .int (iZ (dr (k / 8)))) (congrArg Value.int ((hT (k / 8) (by omega) (by omega)).1)) ?_
  refine lv_bipush (v := iZ (7)) hx hb d_Mo_bit_9 (by decide) ?_
  refine lv_iload_n hx hb d_Mo_bit_11 rfl (lv_at hl 1 rfl) ?_
  refine lv_bipush (v := iZ (8)) hx hb d_Mo_bit_12 (by decide) ?_
  refine zi_rem hx hb d_Mo_bit_14 (by omega) (by omega) (by omega) (by omega) ?_
  refine zi_sub hx hb d_Mo_bit_15 ?_
  refine lv_ishr hx hb d_Mo_bit_16 ?_
  refine zn_eq (v2 := .int (iZ (dr (k / 8) / 2 ^ (7 - k % 8).toNat))) (congrArg _ (iZ_shr (by omega) (by omega) (by omega) (by omega))) ?_
  have d9 : 0 ≤ dr (k / 8) / 2 ^ (7 - k % 8).toNat ∧ dr (k / 8) / 2 ^ (7 - k % 8).toNat ≤ dr (k / 8) := ⟨Int.ediv_nonneg b9.1 (Int.le_of_lt (Int.pow_pos (by decide))), Int.ediv_le_self _ b9.1⟩
  refine lv_iconst (v := iZ (1)) hx hb d_Mo_bit_17 rfl ?_
  refine lv_iand hx hb d_Mo_bit_18 ?_
  refine zn_eq (v2 := .int (iZ (dr (k / 8) / 2 ^ (7 - k % 8).toNat % 2))) (congrArg _ (iZ_and1 d9.1 (by omega))) ?_
  refine lv_iconst (v := iZ (1)) hx hb d_Mo_bit_19 rfl ?_
  refine zi_ne (tgt := 27) hx hb d_Mo_bit_20 (by decide) (by omega) (by omega) (by omega) (by omega) (fun c_20 => ?_) (fun c_20 => ?_)
  · refine lv_iconst (v := iZ (0)) hx hb d_Mo_bit_27 rfl ?_
    exact W.zret (ty := .boolean) hx hb hr (by decide) (fun t ht hW => ⟨_, rfl, by rw [show pcD dr k = false from decide_eq_false (by omega)]; rfl, ht⟩) (fun q h => nomatch h) d_Mo_bit_28
  · refine lv_iconst (v := iZ (1)) hx hb d_Mo_bit_23 rfl ?_
    refine lv_goto (tgt := 28) hx hb d_Mo_bit_24 (by decide) ?_
    exact W.zret (ty := .boolean) hx hb hr (by decide) (fun t ht hW => ⟨_, rfl, by rw [show pcD dr k = true from decide_eq_true (by omega)]; rfl, ht⟩) (fun q h => nomatch h) d_Mo_bit_28
theorem d_Mo_noPlace_0 : decode c_yMo_noPlace 0 = .ok (.iload_n 0, 1) := by decide +kernel
theorem d_Mo_noPlace_1 : decode c_yMo_noPlace 1 = .ok (.sipush (-4096), 3) := by decide +kernel
theorem d_Mo_noPlace_4 : decode c_yMo_noPlace 4 = .ok (.if_icmp .lt 24, 3) := by decide +kernel
theorem d_Mo_noPlace_7 : decode c_yMo_noPlace 7 = .ok (.iload_n 0, 1) := by decide +kernel
theorem d_Mo_noPlace_8 : decode c_yMo_noPlace 8 = .ok (.sipush 4096, 3) := by decide +kernel
theorem d_Mo_noPlace_11 : decode c_yMo_noPlace 11 = .ok (.if_icmp .gt 17, 3) := by decide +kernel
theorem d_Mo_noPlace_14 : decode c_yMo_noPlace 14 = .ok (.iload_n 1, 1) := by decide +kernel
theorem d_Mo_noPlace_15 : decode c_yMo_noPlace 15 = .ok (.sipush (-4096), 3) := by decide +kernel
theorem d_Mo_noPlace_18 : decode c_yMo_noPlace 18 = .ok (.if_icmp .lt 10, 3) := by decide +kernel
theorem d_Mo_noPlace_21 : decode c_yMo_noPlace 21 = .ok (.iload_n 1, 1) := by decide +kernel
theorem d_Mo_noPlace_22 : decode c_yMo_noPlace 22 = .ok (.sipush 4096, 3) := by decide +kernel
theorem d_Mo_noPlace_25 : decode c_yMo_noPlace 25 = .ok (.if_icmp .le 7, 3) := by decide +kernel
theorem d_Mo_noPlace_28 : decode c_yMo_noPlace 28 = .ok (.iconst 1, 1) := by decide +kernel
theorem d_Mo_noPlace_29 : decode c_yMo_noPlace 29 = .ok (.goto 4, 3) := by decide +kernel
theorem d_Mo_noPlace_32 : decode c_yMo_noPlace 32 = .ok (.iconst 0, 1) := by decide +kernel
theorem d_Mo_noPlace_33 : decode c_yMo_noPlace 33 = .ok (.ireturn, 1) := by decide +kernel
set_option maxHeartbeats 4000000 in
set_option maxRecDepth 100000 in
theorem c_Model_noPlace (l : Launch) (dC : Nat → ClassId) (dI : Nat → Nat → Nat) (x y : Int) (x1 : -2147483648 ≤ x) (y1 : -2147483648 ≤ y) (x2 : x ≤ 2147483647) (y2 : y ≤ 2147483647) : Met l y_Mo_noPlace w_Mo_noPlace ({ frames := 0, cells := 0, slots := 0, locals := 0 }) (va_Pc [.int (iZ x), .int (iZ y)] (zPr (dC, dI) vwCl [] [])) (vp_Si (fun r => r = bI (decide (x < -4096 ∨ 4096 < x ∨ y < -4096 ∨ 4096 < y)))) 0 0 (fun _ => False) := by
  refine Met.ofW (cc := c_yMo_noPlace) (maxL := 2) (ret := (some .boolean)) (by decide) rfl ?_
  intro p e s m args below meth c s₁ B hml hv
  obtain ⟨rfl, hP, hK⟩ := hv
  have hx := B.exec
  have hb := B.bytes
  have hr := B.returns
  have hts0 := atoms_spec (ws := w_Mo_noPlace) B.pre
  have hts : ∀ w ∈ gT, w.before _ s = true := fun w h => hts0 w (List.mem_cons_of_mem _ h)
  have hown : s.vm.findClass R_Mo = some m.cls := findClass_of_methodNamed B.named
  have hlocks := B.notSynchronized
  have hl := lv_entry ([.int (iZ x), .int (iZ y)]) (n := 2) (Nat.le_of_ble_eq_true rfl)
  rw [lg_entry_eq]
  generalize (lg_sl ([.int (iZ x), .int (iZ y)]) ++ List.replicate (2 - (lg_sl ([.int (iZ x), .int (iZ y)])).length) Slot.unset).toArray = ls at hl ⊢
  have hl : lv_has ls 2 [(0, .int (iZ x)), (1, .int (iZ y))] := hl
  refine lv_iload_n hx hb d_Mo_noPlace_0 rfl (lv_at hl 0 rfl) ?_
  refine lv_sipush (v := iZ (-4096)) hx hb d_Mo_noPlace_1 (by decide) ?_
  refine zi_lt (tgt := 28) hx hb d_Mo_noPlace_4 (by decide) (by omega) (by omega) (by omega) (by omega) (fun c_4 => ?_) (fun c_4 => ?_)
  · refine lv_iconst (v := iZ (1)) hx hb d_Mo_noPlace_28 rfl ?_
    refine lv_goto (tgt := 33) hx hb d_Mo_noPlace_29 (by decide) ?_
    exact W.zret (ty := .boolean) hx hb hr (by decide) (fun t ht hW => ⟨_, rfl, by rw [show decide (x < -4096 ∨ 4096 < x ∨ y < -4096 ∨ 4096 < y) = true from decide_eq_true (by omega)]; rfl, ht⟩) (fun q h => nomatch h) d_Mo_noPlace_33
  · refine lv_iload_n hx hb d_Mo_noPlace_7 rfl (lv_at hl 0 rfl) ?_
    refine lv_sipush (v := iZ (4096)) hx hb d_Mo_noPlace_8 (by decide) ?_
    refine zi_gt (tgt := 28) hx hb d_Mo_noPlace_11 (by decide) (by omega) (by omega) (by omega) (by omega) (fun c_11 => ?_) (fun c_11 => ?_)
    · refine lv_iconst (v := iZ (1)) hx hb d_Mo_noPlace_28 rfl ?_
      refine lv_goto (tgt := 33) hx hb d_Mo_noPlace_29 (by decide) ?_
      exact W.zret (ty := .boolean) hx hb hr (by decide) (fun t ht hW => ⟨_, rfl, by rw [show decide (x < -4096 ∨ 4096 < x ∨ y < -4096 ∨ 4096 < y) = true from decide_eq_true (by omega)]; rfl, ht⟩) (fun q h => nomatch h) d_Mo_noPlace_33
    · refine lv_iload_n hx hb d_Mo_noPlace_14 rfl (lv_at hl 1 rfl) ?_
      refine lv_sipush (v := iZ (-4096)) hx hb d_Mo_noPlace_15 (by decide) ?_
      refine zi_lt (tgt := 28) hx hb d_Mo_noPlace_18 (by decide) (by omega) (by omega) (by omega) (by omega) (fun c_18 => ?_) (fun c_18 => ?_)
      · refine lv_iconst (v := iZ (1)) hx hb d_Mo_noPlace_28 rfl ?_
        refine lv_goto (tgt := 33) hx hb d_Mo_noPlace_29 (by decide) ?_
        exact W.zret (ty := .boolean) hx hb hr (by decide) (fun t ht hW => ⟨_, rfl, by rw [show decide (x < -4096 ∨ 4096 < x ∨ y < -4096 ∨ 4096 < y) = true from decide_eq_true (by omega)]; rfl, ht⟩) (fun q h => nomatch h) d_Mo_noPlace_33
      · refine lv_iload_n hx hb d_Mo_noPlace_21 rfl (lv_at hl 1 rfl) ?_
        refine lv_sipush (v := iZ (4096)) hx hb d_Mo_noPlace_22 (by decide) ?_
        refine zi_le (tgt := 32) hx hb d_Mo_noPlace_25 (by decide) (by omega) (by omega) (by omega) (by omega) (fun c_25 => ?_) (fun c_25 => ?_)
        · refine lv_iconst (v := iZ (0)) hx hb d_Mo_noPlace_32 rfl ?_
          exact W.zret (ty := .boolean) hx hb hr (by decide) (fun t ht hW => ⟨_, rfl, by rw [show decide (x < -4096 ∨ 4096 < x ∨ y < -4096 ∨ 4096 < y) = false from decide_eq_false (by omega)]; rfl, ht⟩) (fun q h => nomatch h) d_Mo_noPlace_33
        · refine lv_iconst (v := iZ (1)) hx hb d_Mo_noPlace_28 rfl ?_
          refine lv_goto (tgt := 33) hx hb d_Mo_noPlace_29 (by decide) ?_
          exact W.zret (ty := .boolean) hx hb hr (by decide) (fun t ht hW => ⟨_, rfl, by rw [show decide (x < -4096 ∨ 4096 < x ∨ y < -4096 ∨ 4096 < y) = true from decide_eq_true (by omega)]; rfl, ht⟩) (fun q h => nomatch h) d_Mo_noPlace_33
theorem d_Mo_isNot_0 : decode c_yMo_isNot 0 = .ok (.iload_n 0, 1) := by decide +kernel
theorem d_Mo_isNot_1 : decode c_yMo_isNot 1 = .ok (.iload_n 1, 1) := by decide +kernel
theorem d_Mo_isNot_2 : decode c_yMo_isNot 2 = .ok (.if_icmp .lt 8, 3) := by decide +kernel
theorem d_Mo_isNot_5 : decode c_yMo_isNot 5 = .ok (.iload_n 0, 1) := by decide +kernel
theorem d_Mo_isNot_6 : decode c_yMo_isNot 6 = .ok (.iload_n 2, 1) := by decide +kernel
theorem d_Mo_isNot_7 : decode c_yMo_isNot 7 = .ok (.if_icmp .le 7, 3) := by decide +kernel
theorem d_Mo_isNot_10 : decode c_yMo_isNot 10 = .ok (.iconst 1, 1) := by decide +kernel
theorem d_Mo_isNot_11 : decode c_yMo_isNot 11 = .ok (.goto 4, 3) := by decide +kernel
theorem d_Mo_isNot_14 : decode c_yMo_isNot 14 = .ok (.iconst 0, 1) := by decide +kernel
theorem d_Mo_isNot_15 : decode c_yMo_isNot 15 = .ok (.ireturn, 1) := by decide +kernel
set_option maxHeartbeats 4000000 in
set_option maxRecDepth 100000 in
theorem c_Model_isNot (l : Launch) (dC : Nat → ClassId) (dI : Nat → Nat → Nat) (x a b : Int) (x1 : -2147483648 ≤ x) (a1 : -2147483648 ≤ a) (b1 : -2147483648 ≤ b) (x2 : x ≤ 2147483647) (a2 : a ≤ 2147483647) (b2 : b ≤ 2147483647) : Met l y_Mo_isNot w_Mo_isNot ({ frames := 0, cells := 0, slots := 0, locals := 0 }) (va_Pc [.int (iZ x), .int (iZ a), .int (iZ b)] (zPr (dC, dI) vwCl [] [])) (vp_Si (fun r => r = bI (decide (x < a ∨ b < x)))) 0 0 (fun _ => False) := by
  refine Met.ofW (cc := c_yMo_isNot) (maxL := 3) (ret := (some .boolean)) (by decide) rfl ?_
  intro p e s m args below meth c s₁ B hml hv
  obtain ⟨rfl, hP, hK⟩ := hv
  have hx := B.exec
  have hb := B.bytes
  have hr := B.returns
  have hts0 := atoms_spec (ws := w_Mo_isNot) B.pre
  have hts : ∀ w ∈ gT, w.before _ s = true := fun w h => hts0 w (List.mem_cons_of_mem _ h)
  have hown : s.vm.findClass R_Mo = some m.cls := findClass_of_methodNamed B.named
  have hlocks := B.notSynchronized
  have hl := lv_entry ([.int (iZ x), .int (iZ a), .int (iZ b)]) (n := 3) (Nat.le_of_ble_eq_true rfl)
  rw [lg_entry_eq]
  generalize (lg_sl ([.int (iZ x), .int (iZ a), .int (iZ b)]) ++ List.replicate (3 - (lg_sl ([.int (iZ x), .int (iZ a), .int (iZ b)])).length) Slot.unset).toArray = ls at hl ⊢
  have hl : lv_has ls 3 [(0, .int (iZ x)), (1, .int (iZ a)), (2, .int (iZ b))] := hl
  refine lv_iload_n hx hb d_Mo_isNot_0 rfl (lv_at hl 0 rfl) ?_
  refine lv_iload_n hx hb d_Mo_isNot_1 rfl (lv_at hl 1 rfl) ?_
  refine zi_lt (tgt := 10) hx hb d_Mo_isNot_2 (by decide) (by omega) (by omega) (by omega) (by omega) (fun c_2 => ?_) (fun c_2 => ?_)
  · refine lv_iconst (v := iZ (1)) hx hb d_Mo_isNot_10 rfl ?_
    refine lv_goto (tgt := 15) hx hb d_Mo_isNot_11 (by decide) ?_
    exact W.zret (ty := .boolean) hx hb hr (by decide) (fun t ht hW => ⟨_, rfl, by rw [show decide (x < a ∨ b < x) = true from decide_eq_true (by omega)]; rfl, ht⟩) (fun q h => nomatch h) d_Mo_isNot_15
  · refine lv_iload_n hx hb d_Mo_isNot_5 rfl (lv_at hl 0 rfl) ?_
    refine lv_iload_n hx hb d_Mo_isNot_6 rfl (lv_at hl 2 rfl) ?_
    refine zi_le (tgt := 14) hx hb d_Mo_isNot_7 (by decide) (by omega) (by omega) (by omega) (by omega) (fun c_7 => ?_) (fun c_7 => ?_)
    · refine lv_iconst (v := iZ (0)) hx hb d_Mo_isNot_14 rfl ?_
      exact W.zret (ty := .boolean) hx hb hr (by decide) (fun t ht hW => ⟨_, rfl, by rw [show decide (x < a ∨ b < x) = false from decide_eq_false (by omega)]; rfl, ht⟩) (fun q h => nomatch h) d_Mo_isNot_15
    · refine lv_iconst (v := iZ (1)) hx hb d_Mo_isNot_10 rfl ?_
      refine lv_goto (tgt := 15) hx hb d_Mo_isNot_11 (by decide) ?_
      exact W.zret (ty := .boolean) hx hb hr (by decide) (fun t ht hW => ⟨_, rfl, by rw [show decide (x < a ∨ b < x) = true from decide_eq_true (by omega)]; rfl, ht⟩) (fun q h => nomatch h) d_Mo_isNot_15
theorem d_Mo_noRing_0 : decode c_yMo_noRing 0 = .ok (.iload_n 0, 1) := by decide +kernel
theorem d_Mo_noRing_1 : decode c_yMo_noRing 1 = .ok (.iconst 1, 1) := by decide +kernel
theorem d_Mo_noRing_2 : decode c_yMo_noRing 2 = .ok (.sipush 2048, 3) := by decide +kernel
theorem d_Mo_noRing_5 : decode c_yMo_noRing 5 = .ok (.invokestatic 121, 3) := by decide +kernel
theorem d_Mo_noRing_8 : decode c_yMo_noRing 8 = .ok (.ifCond .ne 25, 3) := by decide +kernel
theorem d_Mo_noRing_11 : decode c_yMo_noRing 11 = .ok (.iload_n 1, 1) := by decide +kernel
theorem d_Mo_noRing_12 : decode c_yMo_noRing 12 = .ok (.iconst 1, 1) := by decide +kernel
theorem d_Mo_noRing_13 : decode c_yMo_noRing 13 = .ok (.sipush 2048, 3) := by decide +kernel
theorem d_Mo_noRing_16 : decode c_yMo_noRing 16 = .ok (.invokestatic 121, 3) := by decide +kernel
theorem d_Mo_noRing_19 : decode c_yMo_noRing 19 = .ok (.ifCond .ne 14, 3) := by decide +kernel
theorem d_Mo_noRing_22 : decode c_yMo_noRing 22 = .ok (.iload_n 2, 1) := by decide +kernel
theorem d_Mo_noRing_23 : decode c_yMo_noRing 23 = .ok (.iconst 1, 1) := by decide +kernel
theorem d_Mo_noRing_24 : decode c_yMo_noRing 24 = .ok (.sipush 200, 3) := by decide +kernel
theorem d_Mo_noRing_27 : decode c_yMo_noRing 27 = .ok (.invokestatic 121, 3) := by decide +kernel
theorem d_Mo_noRing_30 : decode c_yMo_noRing 30 = .ok (.ifCond .eq 7, 3) := by decide +kernel
theorem d_Mo_noRing_33 : decode c_yMo_noRing 33 = .ok (.iconst 1, 1) := by decide +kernel
theorem d_Mo_noRing_34 : decode c_yMo_noRing 34 = .ok (.goto 4, 3) := by decide +kernel
theorem d_Mo_noRing_37 : decode c_yMo_noRing 37 = .ok (.iconst 0, 1) := by decide +kernel
theorem d_Mo_noRing_38 : decode c_yMo_noRing 38 = .ok (.ireturn, 1) := by decide +kernel
set_option maxHeartbeats 4000000 in
set_option maxRecDepth 100000 in
theorem c_Model_noRing (l : Launch) (dC : Nat → ClassId) (dI : Nat → Nat → Nat) (bw bh bt : Int) (bw1 : -2147483648 ≤ bw) (bh1 : -2147483648 ≤ bh) (bt1 : -2147483648 ≤ bt) (bw2 : bw ≤ 2147483647) (bh2 : bh ≤ 2147483647) (bt2 : bt ≤ 2147483647) : Met l y_Mo_noRing w_Mo_noRing ({ frames := 1, cells := 0, slots := 0, locals := 22 }) (va_Pc [.int (iZ bw), .int (iZ bh), .int (iZ bt)] (zPr (dC, dI) vwCl [] [])) (vp_Si (fun r => r = bI (decide (bw < 1 ∨ 2048 < bw ∨ bh < 1 ∨ 2048 < bh ∨ bt < 1 ∨ 200 < bt)))) 0 0 (fun _ => False) := by
  refine Met.ofW (cc := c_yMo_noRing) (maxL := 3) (ret := (some .boolean)) (by decide) rfl ?_
  intro p e s m args below meth c s₁ B hml hv
  obtain ⟨rfl, hP, hK⟩ := hv
  have hx := B.exec
  have hb := B.bytes
  have hr := B.returns
  have hts0 := atoms_spec (ws := w_Mo_noRing) B.pre
  have hts : ∀ w ∈ gT, w.before _ s = true := fun w h => hts0 w (List.mem_cons_of_mem _ h)
  have hown : s.vm.findClass R_Mo = some m.cls := findClass_of_methodNamed B.named
  have hlocks := B.notSynchronized
  have hl := lv_entry ([.int (iZ bw), .int (iZ bh), .int (iZ bt)]) (n := 3) (Nat.le_of_ble_eq_true rfl)
  rw [lg_entry_eq]
  generalize (lg_sl ([.int (iZ bw), .int (iZ bh), .int (iZ bt)]) ++ List.replicate (3 - (lg_sl ([.int (iZ bw), .int (iZ bh), .int (iZ bt)])).length) Slot.unset).toArray = ls at hl ⊢
  have hl : lv_has ls 3 [(0, .int (iZ bw)), (1, .int (iZ bh)), (2, .int (iZ bt))] := hl
  refine lv_iload_n hx hb d_Mo_noRing_0 rfl (lv_at hl 0 rfl) ?_
  refine lv_iconst (v := iZ (1)) hx hb d_Mo_noRing_1 rfl ?_
  refine lv_sipush (v := iZ (2048)) hx hb d_Mo_noRing_2 (by decide) ?_
  refine vp_callSi (va_runS (As := [.int (iZ bw), .int (iZ 1), .int (iZ 2048)]) (rest := []) ⟨hx, hb, hml, hown, hts⟩ (c_Model_isNot l dC dI bw 1 2048 (by first | omega | assumption) (by first | omega | assumption) (by first | omega | assumption) (by first | omega | assumption) (by first | omega | assumption) (by first | omega | assumption)) (va_cwS 3 hts (gS t_771 t_772 t_6 t_773) rfl rfl rfl (by decide +kernel) ⟨Nat.le_of_ble_eq_true rfl, Nat.le_of_ble_eq_true rfl⟩) ⟨zPr_blind, zPr_pre hP hK [] [] rfl rfl⟩ rfl rfl hl.1 rfl (lv_room (Nat.le_of_ble_eq_true rfl)) d_Mo_noRing_5 ⟨Nat.le_of_ble_eq_true rfl, Nat.le_of_ble_eq_true rfl⟩).run (fun r_5 q_5 => ?_)
  obtain rfl := q_5
  refine zb_if_ne (tgt := 33) hx hb d_Mo_noRing_8 (by decide) (fun c_8 => ?_) (fun c_8 => ?_)
  · have c_8 := of_decide_eq_true c_8
    refine lv_iconst (v := iZ (1)) hx hb d_Mo_noRing_33 rfl ?_
    refine lv_goto (tgt := 38) hx hb d_Mo_noRing_34 (by decide) ?_
    exact W.zret (ty := .boolean) hx hb hr (by decide) (fun t ht hW => ⟨_, rfl, by rw [show decide (bw < 1 ∨ 2048 < bw ∨ bh < 1 ∨ 2048 < bh ∨ bt < 1 ∨ 200 < bt) = true from decide_eq_true (by omega)]; rfl, ht⟩) (fun q h => nomatch h) d_Mo_noRing_38
  · have c_8 := of_decide_eq_false c_8
    refine lv_iload_n hx hb d_Mo_noRing_11 rfl (lv_at hl 1 rfl) ?_
    refine lv_iconst (v := iZ (1)) hx hb d_Mo_noRing_12 rfl ?_
    refine lv_sipush (v := iZ (2048)) hx hb d_Mo_noRing_13 (by decide) ?_
    refine vp_callSi (va_runS (As := [.int (iZ bh), .int (iZ 1), .int (iZ 2048)]) (rest := []) ⟨hx, hb, hml, hown, hts⟩ (c_Model_isNot l dC dI bh 1 2048 (by first | omega | assumption) (by first | omega | assumption) (by first | omega | assumption) (by first | omega | assumption) (by first | omega | assumption) (by first | omega | assumption)) (va_cwS 3 hts (gS t_771 t_772 t_6 t_773) rfl rfl rfl (by decide +kernel) ⟨Nat.le_of_ble_eq_true rfl, Nat.le_of_ble_eq_true rfl⟩) ⟨zPr_blind, zPr_pre hP hK [] [] rfl rfl⟩ rfl rfl hl.1 rfl (lv_room (Nat.le_of_ble_eq_true rfl)) d_Mo_noRing_16 ⟨Nat.le_of_ble_eq_true rfl, Nat.le_of_ble_eq_true rfl⟩).run (fun r_16 q_16 => ?_)
    obtain rfl := q_16
    refine zb_if_ne (tgt := 33) hx hb d_Mo_noRing_19 (by decide) (fun c_19 => ?_) (fun c_19 => ?_)
    · have c_19 := of_decide_eq_true c_19
      refine lv_iconst (v := iZ (1)) hx hb d_Mo_noRing_33 rfl ?_
      refine lv_goto (tgt := 38) hx hb d_Mo_noRing_34 (by decide) ?_
      exact W.zret (ty := .boolean) hx hb hr (by decide) (fun t ht hW => ⟨_, rfl, by rw [show decide (bw < 1 ∨ 2048 < bw ∨ bh < 1 ∨ 2048 < bh ∨ bt < 1 ∨ 200 < bt) = true from decide_eq_true (by omega)]; rfl, ht⟩) (fun q h => nomatch h) d_Mo_noRing_38
    · have c_19 := of_decide_eq_false c_19
      refine lv_iload_n hx hb d_Mo_noRing_22 rfl (lv_at hl 2 rfl) ?_
      refine lv_iconst (v := iZ (1)) hx hb d_Mo_noRing_23 rfl ?_
      refine lv_sipush (v := iZ (200)) hx hb d_Mo_noRing_24 (by decide) ?_
      refine vp_callSi (va_runS (As := [.int (iZ bt), .int (iZ 1), .int (iZ 200)]) (rest := []) ⟨hx, hb, hml, hown, hts⟩ (c_Model_isNot l dC dI bt 1 200 (by first | omega | assumption) (by first | omega | assumption) (by first | omega | assumption) (by first | omega | assumption) (by first | omega | assumption) (by first | omega | assumption)) (va_cwS 3 hts (gS t_771 t_772 t_6 t_773) rfl rfl rfl (by decide +kernel) ⟨Nat.le_of_ble_eq_true rfl, Nat.le_of_ble_eq_true rfl⟩) ⟨zPr_blind, zPr_pre hP hK [] [] rfl rfl⟩ rfl rfl hl.1 rfl (lv_room (Nat.le_of_ble_eq_true rfl)) d_Mo_noRing_27 ⟨Nat.le_of_ble_eq_true rfl, Nat.le_of_ble_eq_true rfl⟩).run (fun r_27 q_27 => ?_)
      obtain rfl := q_27
      refine zb_if_eq (tgt := 37) hx hb d_Mo_noRing_30 (by decide) (fun c_30 => ?_) (fun c_30 => ?_)
      · have c_30 := of_decide_eq_false c_30
        refine lv_iconst (v := iZ (0)) hx hb d_Mo_noRing_37 rfl ?_
        exact W.zret (ty := .boolean) hx hb hr (by decide) (fun t ht hW => ⟨_, rfl, by rw [show decide (bw < 1 ∨ 2048 < bw ∨ bh < 1 ∨ 2048 < bh ∨ bt < 1 ∨ 200 < bt) = false from decide_eq_false (by omega)]; rfl, ht⟩) (fun q h => nomatch h) d_Mo_noRing_38
      · have c_30 := of_decide_eq_true c_30
        refine lv_iconst (v := iZ (1)) hx hb d_Mo_noRing_33 rfl ?_
        refine lv_goto (tgt := 38) hx hb d_Mo_noRing_34 (by decide) ?_
        exact W.zret (ty := .boolean) hx hb hr (by decide) (fun t ht hW => ⟨_, rfl, by rw [show decide (bw < 1 ∨ 2048 < bw ∨ bh < 1 ∨ 2048 < bh ∨ bt < 1 ∨ 200 < bt) = true from decide_eq_true (by omega)]; rfl, ht⟩) (fun q h => nomatch h) d_Mo_noRing_38
theorem d_Mo_at_0 : decode c_yMo_at 0 = .ok (.aload_n 0, 1) := by decide +kernel
theorem d_Mo_at_1 : decode c_yMo_at 1 = .ok (.iload_n 1, 1) := by decide +kernel
theorem d_Mo_at_2 : decode c_yMo_at 2 = .ok (.putfield 52, 3) := by decide +kernel
theorem d_Mo_at_5 : decode c_yMo_at 5 = .ok (.aload_n 0, 1) := by decide +kernel
theorem d_Mo_at_6 : decode c_yMo_at 6 = .ok (.iload_n 2, 1) := by decide +kernel
theorem d_Mo_at_7 : decode c_yMo_at 7 = .ok (.putfield 58, 3) := by decide +kernel
theorem d_Mo_at_10 : decode c_yMo_at 10 = .ok (.aload_n 0, 1) := by decide +kernel
theorem d_Mo_at_11 : decode c_yMo_at 11 = .ok (.iload_n 3, 1) := by decide +kernel
theorem d_Mo_at_12 : decode c_yMo_at 12 = .ok (.putfield 55, 3) := by decide +kernel
theorem d_Mo_at_15 : decode c_yMo_at 15 = .ok (.aload_n 0, 1) := by decide +kernel
theorem d_Mo_at_16 : decode c_yMo_at 16 = .ok (.iload 4, 2) := by decide +kernel
theorem d_Mo_at_18 : decode c_yMo_at 18 = .ok (.putfield 61, 3) := by decide +kernel
theorem d_Mo_at_21 : decode c_yMo_at 21 = .ok (.aload_n 0, 1) := by decide +kernel
theorem d_Mo_at_22 : decode c_yMo_at 22 = .ok (.iload 5, 2) := by decide +kernel
theorem d_Mo_at_24 : decode c_yMo_at 24 = .ok (.putfield 64, 3) := by decide +kernel
theorem d_Mo_at_27 : decode c_yMo_at 27 = .ok (.return_, 1) := by decide +kernel
set_option maxHeartbeats 4000000 in
set_option maxRecDepth 100000 in
theorem c_Model_at (l : Launch) (dC : Nat → ClassId) (dI : Nat → Nat → Nat) (hm zd zb zt zs zc zo : Nat) (tw w h mn n fx fy fa fb fc qr fo x y a b cc_ : Int) (sz : Nat)  : Met l y_Mo_at w_Mo_at ({ frames := 0, cells := 0, slots := 0, locals := 0 }) (va_Pc [.ref hm, .int (iZ x), .int (iZ y), .int (iZ a), .int (iZ b), .int (iZ cc_)] (zPm (dC, dI) vwCl [(hm, .inr (6, [.int (iZ tw), .int (iZ w), .int (iZ h), .int (iZ mn), .ref zd, .ref zb, .ref zt, .int (iZ n), .ref zs, .ref zc, .int (iZ fx), .int (iZ fy), .int (iZ fa), .int (iZ fb), .int (iZ fc), .int (iZ qr), .int (iZ fo), .ref zo]))] [] sz)) (va_Qv (fun (u : Unit) => True) (fun u => zB (dC, dI) vwCl [] (va_A [(hm, .inr (6, [.int (iZ tw), .int (iZ w), .int (iZ h), .int (iZ mn), .ref zd, .ref zb, .ref zt, .int (iZ n), .ref zs, .ref zc, .int (iZ fx), .int (iZ fy), .int (iZ fa), .int (iZ fb), .int (iZ fc), .int (iZ qr), .int (iZ fo), .ref zo]))] sz) [(hm, .inr (6, [.int (iZ tw), .int (iZ w), .int (iZ h), .int (iZ mn), .ref zd, .ref zb, .ref zt, .int (iZ n), .ref zs, .ref zc, .int (iZ x), .int (iZ y), .int (iZ a), .int (iZ b), .int (iZ cc_), .int (iZ qr), .int (iZ fo), .ref zo]))]) (va_A [(hm, .inr (6, [.int (iZ tw), .int (iZ w), .int (iZ h), .int (iZ mn), .ref zd, .ref zb, .ref zt, .int (iZ n), .ref zs, .ref zc, .int (iZ fx), .int (iZ fy), .int (iZ fa), .int (iZ fb), .int (iZ fc), .int (iZ qr), .int (iZ fo), .ref zo]))] sz)) 0 0 (va_A [(hm, .inr (6, [.int (iZ tw), .int (iZ w), .int (iZ h), .int (iZ mn), .ref zd, .ref zb, .ref zt, .int (iZ n), .ref zs, .ref zc, .int (iZ fx), .int (iZ fy), .int (iZ fa), .int (iZ fb), .int (iZ fc), .int (iZ qr), .int (iZ fo), .ref zo]))] sz) := by
  refine Met.ofW (cc := c_yMo_at) (maxL := 6) (ret := none) (by decide) rfl ?_
  intro p e s m args below meth c s₁ B hml hv
  obtain ⟨rfl, hsz, hP, hK, hD0⟩ := hv
  have hx := B.exec
  have hb := B.bytes
  have hr := B.returns
  have hts0 := atoms_spec (ws := w_Mo_at) B.pre
  have hts : ∀ w ∈ gT, w.before _ s = true := fun w h => hts0 w (List.mem_cons_of_mem _ h)
  have hown : s.vm.findClass R_Mo = some m.cls := findClass_of_methodNamed B.named
  have hlocks := B.notSynchronized
  subst hsz
  have hD := hD0.self (sz := s.heap.size)
  generalize hAe : va_A [(hm, .inr (6, [.int (iZ tw), .int (iZ w), .int (iZ h), .int (iZ mn), .ref zd, .ref zb, .ref zt, .int (iZ n), .ref zs, .ref zc, .int (iZ fx), .int (iZ fy), .int (iZ fa), .int (iZ fb), .int (iZ fc), .int (iZ qr), .int (iZ fo), .ref zo]))] s.heap.size = A at hD ⊢
  have hA : ∀ q : Nat, s.heap.size ≤ q → A q := fun q h => by rw [← hAe]; exact Or.inr h
  obtain ⟨H, hH⟩ : ∃ H, s.heap = H := ⟨_, rfl⟩
  have hS : va_S A s.heap H [] := by rw [← hH]; exact va_S.rf
  rw [hH] at hP
  rw [hH]
  have hl := lv_entry ([.ref hm, .int (iZ x), .int (iZ y), .int (iZ a), .int (iZ b), .int (iZ cc_)]) (n := 6) (Nat.le_of_ble_eq_true rfl)
  rw [lg_entry_eq]
  generalize (lg_sl ([.ref hm, .int (iZ x), .int (iZ y), .int (iZ a), .int (iZ b), .int (iZ cc_)]) ++ List.replicate (6 - (lg_sl ([.ref hm, .int (iZ x), .int (iZ y), .int (iZ a), .int (iZ b), .int (iZ cc_)])).length) Slot.unset).toArray = ls at hl ⊢
  have hl : lv_has ls 6 [(0, .ref hm), (1, .int (iZ x)), (2, .int (iZ y)), (3, .int (iZ a)), (4, .int (iZ b)), (5, .int (iZ cc_))] := hl
  refine lv_aload_n hx hb d_Mo_at_0 rfl (lv_at hl 0 rfl) ?_
  refine lv_iload_n hx hb d_Mo_at_1 rfl (lv_at hl 1 rfl) ?_
  refine va_put (D := (dC, dI)) (ci := 6) (v := .int (iZ x)) (ty := .int) (C := R_Mo) (T := T_Mo) (N := 18) hx hb hts wi_Mo ty_Mo ty_Mo_ok nd_Mo hown hK hP hD hS 0 rfl rfl 10 (by decide) (hts _ t_694) (fun _ h9 => h9) rfl (by decide +kernel) rfl rfl (Nat.le_of_ble_eq_true rfl) d_Mo_at_2 (fun H locs hP hD hS => ?_)
  have hP : va_P (dC, dI) vwCl [(hm, .inr (6, [.int (iZ tw), .int (iZ w), .int (iZ h), .int (iZ mn), .ref zd, .ref zb, .ref zt, .int (iZ n), .ref zs, .ref zc, .int (iZ x), .int (iZ fy), .int (iZ fa), .int (iZ fb), .int (iZ fc), .int (iZ qr), .int (iZ fo), .ref zo]))] H := hP
  have hD : va_D A [(hm, .inr (6, [.int (iZ tw), .int (iZ w), .int (iZ h), .int (iZ mn), .ref zd, .ref zb, .ref zt, .int (iZ n), .ref zs, .ref zc, .int (iZ x), .int (iZ fy), .int (iZ fa), .int (iZ fb), .int (iZ fc), .int (iZ qr), .int (iZ fo), .ref zo]))] := hD
  refine lv_aload_n hx hb d_Mo_at_5 rfl (lv_at hl 0 rfl) ?_
  refine lv_iload_n hx hb d_Mo_at_6 rfl (lv_at hl 2 rfl) ?_
  refine va_put (D := (dC, dI)) (ci := 6) (v := .int (iZ y)) (ty := .int) (C := R_Mo) (T := T_Mo) (N := 18) hx hb hts wi_Mo ty_Mo ty_Mo_ok nd_Mo hown hK hP hD hS 0 rfl rfl 11 (by decide) (hts _ t_695) (fun _ h9 => h9) rfl (by decide +kernel) rfl rfl (Nat.le_of_ble_eq_true rfl) d_Mo_at_7 (fun H locs hP hD hS => ?_)
  have hP : va_P (dC, dI) vwCl [(hm, .inr (6, [.int (iZ tw), .int (iZ w), .int (iZ h), .int (iZ mn), .ref zd, .ref zb, .ref zt, .int (iZ n), .ref zs, .ref zc, .int (iZ x), .int (iZ y), .int (iZ fa), .int (iZ fb), .int (iZ fc), .int (iZ qr), .int (iZ fo), .ref zo]))] H := hP
  have hD : va_D A [(hm, .inr (6, [.int (iZ tw), .int (iZ w), .int (iZ h), .int (iZ mn), .ref zd, .ref zb, .ref zt, .int (iZ n), .ref zs, .ref zc, .int (iZ x), .int (iZ y), .int (iZ fa), .int (iZ fb), .int (iZ fc), .int (iZ qr), .int (iZ fo), .ref zo]))] := hD
  refine lv_aload_n hx hb d_Mo_at_10 rfl (lv_at hl 0 rfl) ?_
  refine lv_iload_n hx hb d_Mo_at_11 rfl (lv_at hl 3 rfl) ?_
  refine va_put (D := (dC, dI)) (ci := 6) (v := .int (iZ a)) (ty := .int) (C := R_Mo) (T := T_Mo) (N := 18) hx hb hts wi_Mo ty_Mo ty_Mo_ok nd_Mo hown hK hP hD hS 0 rfl rfl 12 (by decide) (hts _ t_696) (fun _ h9 => h9) rfl (by decide +kernel) rfl rfl (Nat.le_of_ble_eq_true rfl) d_Mo_at_12 (fun H locs hP hD hS => ?_)
  have hP : va_P (dC, dI) vwCl [(hm, .inr (6, [.int (iZ tw), .int (iZ w), .int (iZ h), .int (iZ mn), .ref zd, .ref zb, .ref zt, .int (iZ n), .ref zs, .ref zc, .int (iZ x), .int (iZ y), .int (iZ a), .int (iZ fb), .int (iZ fc), .int (iZ qr), .int (iZ fo), .ref zo]))] H := hP
  have hD : va_D A [(hm, .inr (6, [.int (iZ tw), .int (iZ w), .int (iZ h), .int (iZ mn), .ref zd, .ref zb, .ref zt, .int (iZ n), .ref zs, .ref zc, .int (iZ x), .int (iZ y), .int (iZ a), .int (iZ fb), .int (iZ fc), .int (iZ qr), .int (iZ fo), .ref zo]))] := hD
  refine lv_aload_n hx hb d_Mo_at_15 rfl (lv_at hl 0 rfl) ?_
  refine lv_iload hx hb d_Mo_at_16 (lv_at hl 4 rfl) ?_
  refine va_put (D := (dC, dI)) (ci := 6) (v := .int (iZ b)) (ty := .int) (C := R_Mo) (T := T_Mo) (N := 18) hx hb hts wi_Mo ty_Mo ty_Mo_ok nd_Mo hown hK hP hD hS 0 rfl rfl 13 (by decide) (hts _ t_697) (fun _ h9 => h9) rfl (by decide +kernel) rfl rfl (Nat.le_of_ble_eq_true rfl) d_Mo_at_18 (fun H locs hP hD hS => ?_)
  have hP : va_P (dC, dI) vwCl [(hm, .inr (6, [.int (iZ tw), .int (iZ w), .int (iZ h), .int (iZ mn), .ref zd, .ref zb, .ref zt, .int (iZ n), .ref zs, .ref zc, .int (iZ x), .int (iZ y), .int (iZ a), .int (iZ b), .int (iZ fc), .int (iZ qr), .int (iZ fo), .ref zo]))] H := hP
  have hD : va_D A [(hm, .inr (6, [.int (iZ tw), .int (iZ w), .int (iZ h), .int (iZ mn), .ref zd, .ref zb, .ref zt, .int (iZ n), .ref zs, .ref zc, .int (iZ x), .int (iZ y), .int (iZ a), .int (iZ b), .int (iZ fc), .int (iZ qr), .int (iZ fo), .ref zo]))] := hD
  refine lv_aload_n hx hb d_Mo_at_21 rfl (lv_at hl 0 rfl) ?_
  refine lv_iload hx hb d_Mo_at_22 (lv_at hl 5 rfl) ?_
  refine va_put (D := (dC, dI)) (ci := 6) (v := .int (iZ cc_)) (ty := .int) (C := R_Mo) (T := T_Mo) (N := 18) hx hb hts wi_Mo ty_Mo ty_Mo_ok nd_Mo hown hK hP hD hS 0 rfl rfl 14 (by decide) (hts _ t_698) (fun _ h9 => h9) rfl (by decide +kernel) rfl rfl (Nat.le_of_ble_eq_true rfl) d_Mo_at_24 (fun H locs hP hD hS => ?_)
  have hP : va_P (dC, dI) vwCl [(hm, .inr (6, [.int (iZ tw), .int (iZ w), .int (iZ h), .int (iZ mn), .ref zd, .ref zb, .ref zt, .int (iZ n), .ref zs, .ref zc, .int (iZ x), .int (iZ y), .int (iZ a), .int (iZ b), .int (iZ cc_), .int (iZ qr), .int (iZ fo), .ref zo]))] H := hP
  have hD : va_D A [(hm, .inr (6, [.int (iZ tw), .int (iZ w), .int (iZ h), .int (iZ mn), .ref zd, .ref zb, .ref zt, .int (iZ n), .ref zs, .ref zc, .int (iZ x), .int (iZ y), .int (iZ a), .int (iZ b), .int (iZ cc_), .int (iZ qr), .int (iZ fo), .ref zo]))] := hD
  exact W.vret hx hb hr (fun t ht hW => ⟨⟨(()), rfl, trivial, by rw [ht]; exact hP, va_K.moved hW.alike hK, hD⟩, hS.F ht⟩) hS.2.2 d_Mo_at_27
theorem d_Mo_inFrame_0 : decode c_yMo_inFrame 0 = .ok (.aload_n 0, 1) := by decide +kernel
theorem d_Mo_inFrame_1 : decode c_yMo_inFrame 1 = .ok (.getfield 52, 3) := by decide +kernel
theorem d_Mo_inFrame_4 : decode c_yMo_inFrame 4 = .ok (.aload_n 0, 1) := by decide +kernel
theorem d_Mo_inFrame_5 : decode c_yMo_inFrame 5 = .ok (.getfield 55, 3) := by decide +kernel
theorem d_Mo_inFrame_8 : decode c_yMo_inFrame 8 = .ok (.iadd, 1) := by decide +kernel
theorem d_Mo_inFrame_9 : decode c_yMo_inFrame 9 = .ok (.iconst 1, 1) := by decide +kernel
theorem d_Mo_inFrame_10 : decode c_yMo_inFrame 10 = .ok (.isub, 1) := by decide +kernel
theorem d_Mo_inFrame_11 : decode c_yMo_inFrame 11 = .ok (.istore_n 3, 1) := by decide +kernel
theorem d_Mo_inFrame_12 : decode c_yMo_inFrame 12 = .ok (.aload_n 0, 1) := by decide +kernel
theorem d_Mo_inFrame_13 : decode c_yMo_inFrame 13 = .ok (.getfield 58, 3) := by decide +kernel
theorem d_Mo_inFrame_16 : decode c_yMo_inFrame 16 = .ok (.aload_n 0, 1) := by decide +kernel
theorem d_Mo_inFrame_17 : decode c_yMo_inFrame 17 = .ok (.getfield 61, 3) := by decide +kernel
theorem d_Mo_inFrame_20 : decode c_yMo_inFrame 20 = .ok (.iadd, 1) := by decide +kernel
theorem d_Mo_inFrame_21 : decode c_yMo_inFrame 21 = .ok (.iconst 1, 1) := by decide +kernel
theorem d_Mo_inFrame_22 : decode c_yMo_inFrame 22 = .ok (.isub, 1) := by decide +kernel
theorem d_Mo_inFrame_23 : decode c_yMo_inFrame 23 = .ok (.istore 4, 2) := by decide +kernel
theorem d_Mo_inFrame_25 : decode c_yMo_inFrame 25 = .ok (.iload_n 1, 1) := by decide +kernel
theorem d_Mo_inFrame_26 : decode c_yMo_inFrame 26 = .ok (.aload_n 0, 1) := by decide +kernel
theorem d_Mo_inFrame_27 : decode c_yMo_inFrame 27 = .ok (.getfield 52, 3) := by decide +kernel
theorem d_Mo_inFrame_30 : decode c_yMo_inFrame 30 = .ok (.if_icmp .lt 26, 3) := by decide +kernel
theorem d_Mo_inFrame_33 : decode c_yMo_inFrame 33 = .ok (.iload_n 1, 1) := by decide +kernel
theorem d_Mo_inFrame_34 : decode c_yMo_inFrame 34 = .ok (.iload_n 3, 1) := by decide +kernel
theorem d_Mo_inFrame_35 : decode c_yMo_inFrame 35 = .ok (.if_icmp .gt 21, 3) := by decide +kernel
theorem d_Mo_inFrame_38 : decode c_yMo_inFrame 38 = .ok (.iload_n 2, 1) := by decide +kernel
theorem d_Mo_inFrame_39 : decode c_yMo_inFrame 39 = .ok (.aload_n 0, 1) := by decide +kernel
theorem d_Mo_inFrame_40 : decode c_yMo_inFrame 40 = .ok (.getfield 58, 3) := by decide +kernel
theorem d_Mo_inFrame_43 : decode c_yMo_inFrame 43 = .ok (.if_icmp .lt 13, 3) := by decide +kernel
theorem d_Mo_inFrame_46 : decode c_yMo_inFrame 46 = .ok (.iload_n 2, 1) := by decide +kernel
theorem d_Mo_inFrame_47 : decode c_yMo_inFrame 47 = .ok (.iload 4, 2) := by decide +kernel
theorem d_Mo_inFrame_49 : decode c_yMo_inFrame 49 = .ok (.if_icmp .gt 7, 3) := by decide +kernel
theorem d_Mo_inFrame_52 : decode c_yMo_inFrame 52 = .ok (.iconst 1, 1) := by decide +kernel
theorem d_Mo_inFrame_53 : decode c_yMo_inFrame 53 = .ok (.goto 4, 3) := by decide +kernel
theorem d_Mo_inFrame_56 : decode c_yMo_inFrame 56 = .ok (.iconst 0, 1) := by decide +kernel
theorem d_Mo_inFrame_57 : decode c_yMo_inFrame 57 = .ok (.istore 5, 2) := by decide +kernel
theorem d_Mo_inFrame_59 : decode c_yMo_inFrame 59 = .ok (.iload 5, 2) := by decide +kernel
theorem d_Mo_inFrame_61 : decode c_yMo_inFrame 61 = .ok (.ifCond .eq 54, 3) := by decide +kernel
theorem d_Mo_inFrame_64 : decode c_yMo_inFrame 64 = .ok (.iload_n 1, 1) := by decide +kernel
theorem d_Mo_inFrame_65 : decode c_yMo_inFrame 65 = .ok (.aload_n 0, 1) := by decide +kernel
theorem d_Mo_inFrame_66 : decode c_yMo_inFrame 66 = .ok (.getfield 52, 3) := by decide +kernel
theorem d_Mo_inFrame_69 : decode c_yMo_inFrame 69 = .ok (.aload_n 0, 1) := by decide +kernel
theorem d_Mo_inFrame_70 : decode c_yMo_inFrame 70 = .ok (.getfield 64, 3) := by decide +kernel
theorem d_Mo_inFrame_73 : decode c_yMo_inFrame 73 = .ok (.iadd, 1) := by decide +kernel
theorem d_Mo_inFrame_74 : decode c_yMo_inFrame 74 = .ok (.if_icmp .lt 37, 3) := by decide +kernel
theorem d_Mo_inFrame_77 : decode c_yMo_inFrame 77 = .ok (.iload_n 1, 1) := by decide +kernel
theorem d_Mo_inFrame_78 : decode c_yMo_inFrame 78 = .ok (.iload_n 3, 1) := by decide +kernel
theorem d_Mo_inFrame_79 : decode c_yMo_inFrame 79 = .ok (.aload_n 0, 1) := by decide +kernel
theorem d_Mo_inFrame_80 : decode c_yMo_inFrame 80 = .ok (.getfield 64, 3) := by decide +kernel
theorem d_Mo_inFrame_83 : decode c_yMo_inFrame 83 = .ok (.isub, 1) := by decide +kernel
theorem d_Mo_inFrame_84 : decode c_yMo_inFrame 84 = .ok (.if_icmp .gt 27, 3) := by decide +kernel
theorem d_Mo_inFrame_87 : decode c_yMo_inFrame 87 = .ok (.iload_n 2, 1) := by decide +kernel
theorem d_Mo_inFrame_88 : decode c_yMo_inFrame 88 = .ok (.aload_n 0, 1) := by decide +kernel
theorem d_Mo_inFrame_89 : decode c_yMo_inFrame 89 = .ok (.getfield 58, 3) := by decide +kernel
theorem d_Mo_inFrame_92 : decode c_yMo_inFrame 92 = .ok (.aload_n 0, 1) := by decide +kernel
theorem d_Mo_inFrame_93 : decode c_yMo_inFrame 93 = .ok (.getfield 64, 3) := by decide +kernel
theorem d_Mo_inFrame_96 : decode c_yMo_inFrame 96 = .ok (.iadd, 1) := by decide +kernel
theorem d_Mo_inFrame_97 : decode c_yMo_inFrame 97 = .ok (.if_icmp .lt 14, 3) := by decide +kernel
theorem d_Mo_inFrame_100 : decode c_yMo_inFrame 100 = .ok (.iload_n 2, 1) := by decide +kernel
theorem d_Mo_inFrame_101 : decode c_yMo_inFrame 101 = .ok (.iload 4, 2) := by decide +kernel
theorem d_Mo_inFrame_103 : decode c_yMo_inFrame 103 = .ok (.aload_n 0, 1) := by decide +kernel
theorem d_Mo_inFrame_104 : decode c_yMo_inFrame 104 = .ok (.getfield 64, 3) := by decide +kernel
theorem d_Mo_inFrame_107 : decode c_yMo_inFrame 107 = .ok (.isub, 1) := by decide +kernel
theorem d_Mo_inFrame_108 : decode c_yMo_inFrame 108 = .ok (.if_icmp .le 7, 3) := by decide +kernel
theorem d_Mo_inFrame_111 : decode c_yMo_inFrame 111 = .ok (.iconst 1, 1) := by decide +kernel
theorem d_Mo_inFrame_112 : decode c_yMo_inFrame 112 = .ok (.goto 4, 3) := by decide +kernel
theorem d_Mo_inFrame_115 : decode c_yMo_inFrame 115 = .ok (.iconst 0, 1) := by decide +kernel
theorem d_Mo_inFrame_116 : decode c_yMo_inFrame 116 = .ok (.ireturn, 1) := by decide +kernel
set_option maxHeartbeats 4000000 in
set_option maxRecDepth 100000 in
theorem c_Model_inFrame (l : Launch) (dC : Nat → ClassId) (dI : Nat → Nat → Nat) (hm zd zb zt zs zc zo : Nat) (tw w h mn n fx fy fa fb fc qr fo px py : Int) (px1 : 0 ≤ px) (px2 : px ≤ 1023) (py1 : 0 ≤ py) (py2 : py ≤ 1023) (fx1 : -4096 ≤ fx) (fx2 : fx ≤ 4096) (fy1 : -4096 ≤ fy) (fy2 : fy ≤ 4096) (fa1 : 1 ≤ fa) (fa2 : fa ≤ 2048) (fb1 : 1 ≤ fb) (fb2 : fb ≤ 2048) (fc1 : 1 ≤ fc) (fc2 : fc ≤ 200) : Met l y_Mo_inFrame w_Mo_inFrame ({ frames := 0, cells := 0, slots := 0, locals := 0 }) (va_Pc [.ref hm, .int (iZ px), .int (iZ py)] (zPr (dC, dI) vwCl [(hm, .inr (6, [.int (iZ tw), .int (iZ w), .int (iZ h), .int (iZ mn), .ref zd, .ref zb, .ref zt, .int (iZ n), .ref zs, .ref zc, .int (iZ fx), .int (iZ fy), .int (iZ fa), .int (iZ fb), .int (iZ fc), .int (iZ qr), .int (iZ fo), .ref zo]))] [])) (vp_Si (fun r => r = bI (frB fx fy fa fb fc px py))) 0 0 (fun _ => False) := by
  refine Met.ofW (cc := c_yMo_inFrame) (maxL := 6) (ret := (some .boolean)) (by decide) rfl ?_
  intro p e s m args below meth c s₁ B hml hv
  obtain ⟨rfl, hP, hK⟩ := hv
  have hx := B.exec
  have hb := B.bytes
  have hr := B.returns
  have hts0 := atoms_spec (ws := w_Mo_inFrame) B.pre
  have hts : ∀ w ∈ gT, w.before _ s = true := fun w h => hts0 w (List.mem_cons_of_mem _ h)
  have hown : s.vm.findClass R_Mo = some m.cls := findClass_of_methodNamed B.named
  have hlocks := B.notSynchronized
  have hl := lv_entry ([.ref hm, .int (iZ px), .int (iZ py)]) (n := 6) (Nat.le_of_ble_eq_true rfl)
  rw [lg_entry_eq]
  generalize (lg_sl ([.ref hm, .int (iZ px), .int (iZ py)]) ++ List.replicate (6 - (lg_sl ([.ref hm, .int (iZ px), .int (iZ py)])).length) Slot.unset).toArray = ls at hl ⊢
  have hl : lv_has ls 6 [(0, .ref hm), (1, .int (iZ px)), (2, .int (iZ py))] := hl
  refine lv_aload_n hx hb d_Mo_inFrame_0 rfl (lv_at hl 0 rfl) ?_
  refine va_get (D := (dC, dI)) (ci := 6) (v := .int (iZ fx)) (C := R_Mo) (T := T_Mo) (N := 18) hx hb hts wi_Mo hown hK hP 0 rfl rfl 10 (by decide) (hts _ t_694) (fun _ h9 => h9) rfl d_Mo_inFrame_1 ?_
  refine lv_aload_n hx hb d_Mo_inFrame_4 rfl (lv_at hl 0 rfl) ?_
  refine va_get (D := (dC, dI)) (ci := 6) (v := .int (iZ fa)) (C := R_Mo) (T := T_Mo) (N := 18) hx hb hts wi_Mo hown hK hP 0 rfl rfl 12 (by decide) (hts _ t_696) (fun _ h9 => h9) rfl d_Mo_inFrame_5 ?_
  refine zi_add hx hb d_Mo_inFrame_8 ?_
  refine lv_iconst (v := iZ (1)) hx hb d_Mo_inFrame_9 rfl ?_
  refine zi_sub hx hb d_Mo_inFrame_10 ?_
  refine zn_z (fun v3_11 e_v3_11 => ?_)
  refine lv_istore_n (lv' := [(3, .int (iZ v3_11)), (0, .ref hm), (1, .int (iZ px)), (2, .int (iZ py))]) hx hb d_Mo_inFrame_11 rfl hl (by decide) rfl (fun ls hl => ?_)
  refine lv_aload_n hx hb d_Mo_inFrame_12 rfl (lv_at hl 1 rfl) ?_
  refine va_get (D := (dC, dI)) (ci := 6) (v := .int (iZ fy)) (C := R_Mo) (T := T_Mo) (N := 18) hx hb hts wi_Mo hown hK hP 0 rfl rfl 11 (by decide) (hts _ t_695) (fun _ h9 => h9) rfl d_Mo_inFrame_13 ?_
  refine lv_aload_n hx hb d_Mo_inFrame_16 rfl (lv_at hl 1 rfl) ?_
  refine va_get (D := (dC, dI)) (ci := 6) (v := .int (iZ fb)) (C := R_Mo) (T := T_Mo) (N := 18) hx hb hts wi_Mo hown hK hP 0 rfl rfl 13 (by decide) (hts _ t_697) (fun _ h9 => h9) rfl d_Mo_inFrame_17 ?_
  refine zi_add hx hb d_Mo_inFrame_20 ?_
  refine lv_iconst (v := iZ (1)) hx hb d_Mo_inFrame_21 rfl ?_
  refine zi_sub hx hb d_Mo_inFrame_22 ?_
  refine zn_z (fun v4_23 e_v4_23 => ?_)
  refine lv_istore (lv' := [(4, .int (iZ v4_23)), (3, .int (iZ v3_11)), (0, .ref hm), (1, .int (iZ px)), (2, .int (iZ py))]) hx hb d_Mo_inFrame_23 hl (by decide) rfl (fun ls hl => ?_)
  refine lv_iload_n hx hb d_Mo_inFrame_25 rfl (lv_at hl 3 rfl) ?_
  refine lv_aload_n hx hb d_Mo_inFrame_26 rfl (lv_at hl 2 rfl) ?_
  refine va_get (D := (dC, dI)) (ci := 6) (v := .int (iZ fx)) (C := R_Mo) (T := T_Mo) (N := 18) hx hb hts wi_Mo hown hK hP 0 rfl rfl 10 (by decide) (hts _ t_694) (fun _ h9 => h9) rfl d_Mo_inFrame_27 ?_
  refine zi_lt (tgt := 56) hx hb d_Mo_inFrame_30 (by decide) (by omega) (by omega) (by omega) (by omega) (fun c_30 => ?_) (fun c_30 => ?_)
  · refine lv_iconst (v := iZ (0)) hx hb d_Mo_inFrame_56 rfl ?_
    refine lv_istore (lv' := [(5, .int (iZ 0)), (4, .int (iZ v4_23)), (3, .int (iZ v3_11)), (0, .ref hm), (1, .int (iZ px)), (2, .int (iZ py))]) hx hb d_Mo_inFrame_57 hl (by decide) rfl (fun ls hl => ?_)
    refine lv_iload hx hb d_Mo_inFrame_59 (lv_at hl 0 rfl) ?_
    refine zi_if_eq (tgt := 115) hx hb d_Mo_inFrame_61 (by decide) (by omega) (by omega) (fun c_61 => ?_) (fun c_61 => ?_)
    · refine lv_iconst (v := iZ (0)) hx hb d_Mo_inFrame_115 rfl ?_
      exact W.zret (ty := .boolean) hx hb hr (by decide) (fun t ht hW => ⟨_, rfl, by rw [show frB fx fy fa fb fc px py = false from decide_eq_false (by omega)]; rfl, ht⟩) (fun q h => nomatch h) d_Mo_inFrame_116
    · exact absurd c_61 (by omega)
  · refine lv_iload_n hx hb d_Mo_inFrame_33 rfl (lv_at hl 3 rfl) ?_
    refine lv_iload_n hx hb d_Mo_inFrame_34 rfl (lv_at hl 1 rfl) ?_
    refine zi_gt (tgt := 56) hx hb d_Mo_inFrame_35 (by decide) (by omega) (by omega) (by omega) (by omega) (fun c_35 => ?_) (fun c_35 => ?_)
    · refine lv_iconst (v := iZ (0)) hx hb d_Mo_inFrame_56 rfl ?_
      refine lv_istore (lv' := [(5, .int (iZ 0)), (4, .int (iZ v4_23)), (3, .int (iZ v3_11)), (0, .ref hm), (1, .int (iZ px)), (2, .int (iZ py))]) hx hb d_Mo_inFrame_57 hl (by decide) rfl (fun ls hl => ?_)
      refine lv_iload hx hb d_Mo_inFrame_59 (lv_at hl 0 rfl) ?_
      refine zi_if_eq (tgt := 115) hx hb d_Mo_inFrame_61 (by decide) (by omega) (by omega) (fun c_61 => ?_) (fun c_61 => ?_)
      · refine lv_iconst (v := iZ (0)) hx hb d_Mo_inFrame_115 rfl ?_
        exact W.zret (ty := .boolean) hx hb hr (by decide) (fun t ht hW => ⟨_, rfl, by rw [show frB fx fy fa fb fc px py = false from decide_eq_false (by omega)]; rfl, ht⟩) (fun q h => nomatch h) d_Mo_inFrame_116
      · exact absurd c_61 (by omega)
    · refine lv_iload_n hx hb d_Mo_inFrame_38 rfl (lv_at hl 4 rfl) ?_
      refine lv_aload_n hx hb d_Mo_inFrame_39 rfl (lv_at hl 2 rfl) ?_
      refine va_get (D := (dC, dI)) (ci := 6) (v := .int (iZ fy)) (C := R_Mo) (T := T_Mo) (N := 18) hx hb hts wi_Mo hown hK hP 0 rfl rfl 11 (by decide) (hts _ t_695) (fun _ h9 => h9) rfl d_Mo_inFrame_40 ?_
      refine zi_lt (tgt := 56) hx hb d_Mo_inFrame_43 (by decide) (by omega) (by omega) (by omega) (by omega) (fun c_43 => ?_) (fun c_43 => ?_)
      · refine lv_iconst (v := iZ (0)) hx hb d_Mo_inFrame_56 rfl ?_
        refine lv_istore (lv' := [(5, .int (iZ 0)), (4, .int (iZ v4_23)), (3, .int (iZ v3_11)), (0, .ref hm), (1, .int (iZ px)), (2, .int (iZ py))]) hx hb d_Mo_inFrame_57 hl (by decide) rfl (fun ls hl => ?_)
        refine lv_iload hx hb d_Mo_inFrame_59 (lv_at hl 0 rfl) ?_
        refine zi_if_eq (tgt := 115) hx hb d_Mo_inFrame_61 (by decide) (by omega) (by omega) (fun c_61 => ?_) (fun c_61 => ?_)
        · refine lv_iconst (v := iZ (0)) hx hb d_Mo_inFrame_115 rfl ?_
          exact W.zret (ty := .boolean) hx hb hr (by decide) (fun t ht hW => ⟨_, rfl, by rw [show frB fx fy fa fb fc px py = false from decide_eq_false (by omega)]; rfl, ht⟩) (fun q h => nomatch h) d_Mo_inFrame_116
        · exact absurd c_61 (by omega)
      · refine lv_iload_n hx hb d_Mo_inFrame_46 rfl (lv_at hl 4 rfl) ?_
        refine lv_iload hx hb d_Mo_inFrame_47 (lv_at hl 0 rfl) ?_
        refine zi_gt (tgt := 56) hx hb d_Mo_inFrame_49 (by decide) (by omega) (by omega) (by omega) (by omega) (fun c_49 => ?_) (fun c_49 => ?_)
        · refine lv_iconst (v := iZ (0)) hx hb d_Mo_inFrame_56 rfl ?_
          refine lv_istore (lv' := [(5, .int (iZ 0)), (4, .int (iZ v4_23)), (3, .int (iZ v3_11)), (0, .ref hm), (1, .int (iZ px)), (2, .int (iZ py))]) hx hb d_Mo_inFrame_57 hl (by decide) rfl (fun ls hl => ?_)
          refine lv_iload hx hb d_Mo_inFrame_59 (lv_at hl 0 rfl) ?_
          refine zi_if_eq (tgt := 115) hx hb d_Mo_inFrame_61 (by decide) (by omega) (by omega) (fun c_61 => ?_) (fun c_61 => ?_)
          · refine lv_iconst (v := iZ (0)) hx hb d_Mo_inFrame_115 rfl ?_
            exact W.zret (ty := .boolean) hx hb hr (by decide) (fun t ht hW => ⟨_, rfl, by rw [show frB fx fy fa fb fc px py = false from decide_eq_false (by omega)]; rfl, ht⟩) (fun q h => nomatch h) d_Mo_inFrame_116
          · exact absurd c_61 (by omega)
        · refine lv_iconst (v := iZ (1)) hx hb d_Mo_inFrame_52 rfl ?_
          refine lv_goto (tgt := 57) hx hb d_Mo_inFrame_53 (by decide) ?_
          refine lv_istore (lv' := [(5, .int (iZ 1)), (4, .int (iZ v4_23)), (3, .int (iZ v3_11)), (0, .ref hm), (1, .int (iZ px)), (2, .int (iZ py))]) hx hb d_Mo_inFrame_57 hl (by decide) rfl (fun ls hl => ?_)
          refine lv_iload hx hb d_Mo_inFrame_59 (lv_at hl 0 rfl) ?_
          refine zi_if_eq (tgt := 115) hx hb d_Mo_inFrame_61 (by decide) (by omega) (by omega) (fun c_61 => ?_) (fun c_61 => ?_)
          · exact absurd c_61 (by omega)
          · refine lv_iload_n hx hb d_Mo_inFrame_64 rfl (lv_at hl 4 rfl) ?_
            refine lv_aload_n hx hb d_Mo_inFrame_65 rfl (lv_at hl 3 rfl) ?_
            refine va_get (D := (dC, dI)) (ci := 6) (v := .int (iZ fx)) (C := R_Mo) (T := T_Mo) (N := 18) hx hb hts wi_Mo hown hK hP 0 rfl rfl 10 (by decide) (hts _ t_694) (fun _ h9 => h9) rfl d_Mo_inFrame_66 ?_
            refine lv_aload_n hx hb d_Mo_inFrame_69 rfl (lv_at hl 3 rfl) ?_
            refine va_get (D := (dC, dI)) (ci := 6) (v := .int (iZ fc)) (C := R_Mo) (T := T_Mo) (N := 18) hx hb hts wi_Mo hown hK hP 0 rfl rfl 14 (by decide) (hts _ t_698) (fun _ h9 => h9) rfl d_Mo_inFrame_70 ?_
            refine zi_add hx hb d_Mo_inFrame_73 ?_
            refine zi_lt (tgt := 111) hx hb d_Mo_inFrame_74 (by decide) (by omega) (by omega) (by omega) (by omega) (fun c_74 => ?_) (fun c_74 => ?_)
            · refine lv_iconst (v := iZ (1)) hx hb d_Mo_inFrame_111 rfl ?_
              refine lv_goto (tgt := 116) hx hb d_Mo_inFrame_112 (by decide) ?_
              exact W.zret (ty := .boolean) hx hb hr (by decide) (fun t ht hW => ⟨_, rfl, by rw [show frB fx fy fa fb fc px py = true from decide_eq_true (by omega)]; rfl, ht⟩) (fun q h => nomatch h) d_Mo_inFrame_116
            · refine lv_iload_n hx hb d_Mo_inFrame_77 rfl (lv_at hl 4 rfl) ?_
              refine lv_iload_n hx hb d_Mo_inFrame_78 rfl (lv_at hl 2 rfl) ?_
              refine lv_aload_n hx hb d_Mo_inFrame_79 rfl (lv_at hl 3 rfl) ?_
              refine va_get (D := (dC, dI)) (ci := 6) (v := .int (iZ fc)) (C := R_Mo) (T := T_Mo) (N := 18) hx hb hts wi_Mo hown hK hP 0 rfl rfl 14 (by decide) (hts _ t_698) (fun _ h9 => h9) rfl d_Mo_inFrame_80 ?_
              refine zi_sub hx hb d_Mo_inFrame_83 ?_
              refine zi_gt (tgt := 111) hx hb d_Mo_inFrame_84 (by decide) (by omega) (by omega) (by omega) (by omega) (fun c_84 => ?_) (fun c_84 => ?_)
              · refine lv_iconst (v := iZ (1)) hx hb d_Mo_inFrame_111 rfl ?_
                refine lv_goto (tgt := 116) hx hb d_Mo_inFrame_112 (by decide) ?_
                exact W.zret (ty := .boolean) hx hb hr (by decide) (fun t ht hW => ⟨_, rfl, by rw [show frB fx fy fa fb fc px py = true from decide_eq_true (by omega)]; rfl, ht⟩) (fun q h => nomatch h) d_Mo_inFrame_116
              · refine lv_iload_n hx hb d_Mo_inFrame_87 rfl (lv_at hl 5 rfl) ?_
                refine lv_aload_n hx hb d_Mo_inFrame_88 rfl (lv_at hl 3 rfl) ?_
                refine va_get (D := (dC, dI)) (ci := 6) (v := .int (iZ fy)) (C := R_Mo) (T := T_Mo) (N := 18) hx hb hts wi_Mo hown hK hP 0 rfl rfl 11 (by decide) (hts _ t_695) (fun _ h9 => h9) rfl d_Mo_inFrame_89 ?_
                refine lv_aload_n hx hb d_Mo_inFrame_92 rfl (lv_at hl 3 rfl) ?_
                refine va_get (D := (dC, dI)) (ci := 6) (v := .int (iZ fc)) (C := R_Mo) (T := T_Mo) (N := 18) hx hb hts wi_Mo hown hK hP 0 rfl rfl 14 (by decide) (hts _ t_698) (fun _ h9 => h9) rfl d_Mo_inFrame_93 ?_
                refine zi_add hx hb d_Mo_inFrame_96 ?_
                refine zi_lt (tgt := 111) hx hb d_Mo_inFrame_97 (by decide) (by omega) (by omega) (by omega) (by omega) (fun c_97 => ?_) (fun c_97 => ?_)
                · refine lv_iconst (v := iZ (1)) hx hb d_Mo_inFrame_111 rfl ?_
                  refine lv_goto (tgt := 116) hx hb d_Mo_inFrame_112 (by decide) ?_
                  exact W.zret (ty := .boolean) hx hb hr (by decide) (fun t ht hW => ⟨_, rfl, by rw [show frB fx fy fa fb fc px py = true from decide_eq_true (by omega)]; rfl, ht⟩) (fun q h => nomatch h) d_Mo_inFrame_116
                · refine lv_iload_n hx hb d_Mo_inFrame_100 rfl (lv_at hl 5 rfl) ?_
                  refine lv_iload hx hb d_Mo_inFrame_101 (lv_at hl 1 rfl) ?_
                  refine lv_aload_n hx hb d_Mo_inFrame_103 rfl (lv_at hl 3 rfl) ?_
                  refine va_get (D := (dC, dI)) (ci := 6) (v := .int (iZ fc)) (C := R_Mo) (T := T_Mo) (N := 18) hx hb hts wi_Mo hown hK hP 0 rfl rfl 14 (by decide) (hts _ t_698) (fun _ h9 => h9) rfl d_Mo_inFrame_104 ?_
                  refine zi_sub hx hb d_Mo_inFrame_107 ?_
                  refine zi_le (tgt := 115) hx hb d_Mo_inFrame_108 (by decide) (by omega) (by omega) (by omega) (by omega) (fun c_108 => ?_) (fun c_108 => ?_)
                  · refine lv_iconst (v := iZ (0)) hx hb d_Mo_inFrame_115 rfl ?_
                    exact W.zret (ty := .boolean) hx hb hr (by decide) (fun t ht hW => ⟨_, rfl, by rw [show frB fx fy fa fb fc px py = false from decide_eq_false (by omega)]; rfl, ht⟩) (fun q h => nomatch h) d_Mo_inFrame_116
                  · refine lv_iconst (v := iZ (1)) hx hb d_Mo_inFrame_111 rfl ?_
                    refine lv_goto (tgt := 116) hx hb d_Mo_inFrame_112 (by decide) ?_
                    exact W.zret (ty := .boolean) hx hb hr (by decide) (fun t ht hW => ⟨_, rfl, by rw [show frB fx fy fa fb fc px py = true from decide_eq_true (by omega)]; rfl, ht⟩) (fun q h => nomatch h) d_Mo_inFrame_116
theorem d_Mo_inLine_0 : decode c_yMo_inLine 0 = .ok (.aload_n 0, 1) := by decide +kernel
theorem d_Mo_inLine_1 : decode c_yMo_inLine 1 = .ok (.getfield 55, 3) := by decide +kernel
theorem d_Mo_inLine_4 : decode c_yMo_inLine 4 = .ok (.aload_n 0, 1) := by decide +kernel
theorem d_Mo_inLine_5 : decode c_yMo_inLine 5 = .ok (.getfield 52, 3) := by decide +kernel
theorem d_Mo_inLine_8 : decode c_yMo_inLine 8 = .ok (.isub, 1) := by decide +kernel
theorem d_Mo_inLine_9 : decode c_yMo_inLine 9 = .ok (.i2l, 1) := by decide +kernel
theorem d_Mo_inLine_10 : decode c_yMo_inLine 10 = .ok (.lstore_n 3, 1) := by decide +kernel
theorem d_Mo_inLine_11 : decode c_yMo_inLine 11 = .ok (.aload_n 0, 1) := by decide +kernel
theorem d_Mo_inLine_12 : decode c_yMo_inLine 12 = .ok (.getfield 61, 3) := by decide +kernel
theorem d_Mo_inLine_15 : decode c_yMo_inLine 15 = .ok (.aload_n 0, 1) := by decide +kernel
theorem d_Mo_inLine_16 : decode c_yMo_inLine 16 = .ok (.getfield 58, 3) := by decide +kernel
theorem d_Mo_inLine_19 : decode c_yMo_inLine 19 = .ok (.isub, 1) := by decide +kernel
theorem d_Mo_inLine_20 : decode c_yMo_inLine 20 = .ok (.i2l, 1) := by decide +kernel
theorem d_Mo_inLine_21 : decode c_yMo_inLine 21 = .ok (.lstore 5, 2) := by decide +kernel
theorem d_Mo_inLine_23 : decode c_yMo_inLine 23 = .ok (.iload_n 1, 1) := by decide +kernel
theorem d_Mo_inLine_24 : decode c_yMo_inLine 24 = .ok (.aload_n 0, 1) := by decide +kernel
theorem d_Mo_inLine_25 : decode c_yMo_inLine 25 = .ok (.getfield 52, 3) := by decide +kernel
theorem d_Mo_inLine_28 : decode c_yMo_inLine 28 = .ok (.isub, 1) := by decide +kernel
theorem d_Mo_inLine_29 : decode c_yMo_inLine 29 = .ok (.i2l, 1) := by decide +kernel
theorem d_Mo_inLine_30 : decode c_yMo_inLine 30 = .ok (.lstore 7, 2) := by decide +kernel
theorem d_Mo_inLine_32 : decode c_yMo_inLine 32 = .ok (.iload_n 2, 1) := by decide +kernel
theorem d_Mo_inLine_33 : decode c_yMo_inLine 33 = .ok (.aload_n 0, 1) := by decide +kernel
theorem d_Mo_inLine_34 : decode c_yMo_inLine 34 = .ok (.getfield 58, 3) := by decide +kernel
theorem d_Mo_inLine_37 : decode c_yMo_inLine 37 = .ok (.isub, 1) := by decide +kernel
theorem d_Mo_inLine_38 : decode c_yMo_inLine 38 = .ok (.i2l, 1) := by decide +kernel
theorem d_Mo_inLine_39 : decode c_yMo_inLine 39 = .ok (.lstore 9, 2) := by decide +kernel
theorem d_Mo_inLine_41 : decode c_yMo_inLine 41 = .ok (.aload_n 0, 1) := by decide +kernel
theorem d_Mo_inLine_42 : decode c_yMo_inLine 42 = .ok (.getfield 64, 3) := by decide +kernel
theorem d_Mo_inLine_45 : decode c_yMo_inLine 45 = .ok (.i2l, 1) := by decide +kernel
theorem d_Mo_inLine_46 : decode c_yMo_inLine 46 = .ok (.aload_n 0, 1) := by decide +kernel
theorem d_Mo_inLine_47 : decode c_yMo_inLine 47 = .ok (.getfield 64, 3) := by decide +kernel
theorem d_Mo_inLine_50 : decode c_yMo_inLine 50 = .ok (.i2l, 1) := by decide +kernel
theorem d_Mo_inLine_51 : decode c_yMo_inLine 51 = .ok (.lmul, 1) := by decide +kernel
theorem d_Mo_inLine_52 : decode c_yMo_inLine 52 = .ok (.lstore 11, 2) := by decide +kernel
theorem d_Mo_inLine_54 : decode c_yMo_inLine 54 = .ok (.lload_n 3, 1) := by decide +kernel
theorem d_Mo_inLine_55 : decode c_yMo_inLine 55 = .ok (.lload_n 3, 1) := by decide +kernel
theorem d_Mo_inLine_56 : decode c_yMo_inLine 56 = .ok (.lmul, 1) := by decide +kernel
theorem d_Mo_inLine_57 : decode c_yMo_inLine 57 = .ok (.lload 5, 2) := by decide +kernel
theorem d_Mo_inLine_59 : decode c_yMo_inLine 59 = .ok (.lload 5, 2) := by decide +kernel
theorem d_Mo_inLine_61 : decode c_yMo_inLine 61 = .ok (.lmul, 1) := by decide +kernel
theorem d_Mo_inLine_62 : decode c_yMo_inLine 62 = .ok (.ladd, 1) := by decide +kernel
theorem d_Mo_inLine_63 : decode c_yMo_inLine 63 = .ok (.lstore 13, 2) := by decide +kernel
theorem d_Mo_inLine_65 : decode c_yMo_inLine 65 = .ok (.lload_n 3, 1) := by decide +kernel
theorem d_Mo_inLine_66 : decode c_yMo_inLine 66 = .ok (.lload 7, 2) := by decide +kernel
theorem d_Mo_inLine_68 : decode c_yMo_inLine 68 = .ok (.lmul, 1) := by decide +kernel
theorem d_Mo_inLine_69 : decode c_yMo_inLine 69 = .ok (.lload 5, 2) := by decide +kernel
theorem d_Mo_inLine_71 : decode c_yMo_inLine 71 = .ok (.lload 9, 2) := by decide +kernel
theorem d_Mo_inLine_73 : decode c_yMo_inLine 73 = .ok (.lmul, 1) := by decide +kernel
theorem d_Mo_inLine_74 : decode c_yMo_inLine 74 = .ok (.ladd, 1) := by decide +kernel
theorem d_Mo_inLine_75 : decode c_yMo_inLine 75 = .ok (.lstore 15, 2) := by decide +kernel
theorem d_Mo_inLine_77 : decode c_yMo_inLine 77 = .ok (.lload 15, 2) := by decide +kernel
theorem d_Mo_inLine_79 : decode c_yMo_inLine 79 = .ok (.lconst 0, 1) := by decide +kernel
theorem d_Mo_inLine_80 : decode c_yMo_inLine 80 = .ok (.lcmp, 1) := by decide +kernel
theorem d_Mo_inLine_81 : decode c_yMo_inLine 81 = .ok (.ifCond .gt 30, 3) := by decide +kernel
theorem d_Mo_inLine_84 : decode c_yMo_inLine 84 = .ok (.ldc2_w 67, 3) := by decide +kernel
theorem d_Mo_inLine_87 : decode c_yMo_inLine 87 = .ok (.lload 7, 2) := by decide +kernel
theorem d_Mo_inLine_89 : decode c_yMo_inLine 89 = .ok (.lload 7, 2) := by decide +kernel
theorem d_Mo_inLine_91 : decode c_yMo_inLine 91 = .ok (.lmul, 1) := by decide +kernel
theorem d_Mo_inLine_92 : decode c_yMo_inLine 92 = .ok (.lload 9, 2) := by decide +kernel
theorem d_Mo_inLine_94 : decode c_yMo_inLine 94 = .ok (.lload 9, 2) := by decide +kernel
theorem d_Mo_inLine_96 : decode c_yMo_inLine 96 = .ok (.lmul, 1) := by decide +kernel
theorem d_Mo_inLine_97 : decode c_yMo_inLine 97 = .ok (.ladd, 1) := by decide +kernel
theorem d_Mo_inLine_98 : decode c_yMo_inLine 98 = .ok (.lmul, 1) := by decide +kernel
theorem d_Mo_inLine_99 : decode c_yMo_inLine 99 = .ok (.lload 11, 2) := by decide +kernel
theorem d_Mo_inLine_101 : decode c_yMo_inLine 101 = .ok (.lcmp, 1) := by decide +kernel
theorem d_Mo_inLine_102 : decode c_yMo_inLine 102 = .ok (.ifCond .gt 7, 3) := by decide +kernel
theorem d_Mo_inLine_105 : decode c_yMo_inLine 105 = .ok (.iconst 1, 1) := by decide +kernel
theorem d_Mo_inLine_106 : decode c_yMo_inLine 106 = .ok (.goto 4, 3) := by decide +kernel
theorem d_Mo_inLine_109 : decode c_yMo_inLine 109 = .ok (.iconst 0, 1) := by decide +kernel
theorem d_Mo_inLine_110 : decode c_yMo_inLine 110 = .ok (.ireturn, 1) := by decide +kernel
theorem d_Mo_inLine_111 : decode c_yMo_inLine 111 = .ok (.lload 15, 2) := by decide +kernel
theorem d_Mo_inLine_113 : decode c_yMo_inLine 113 = .ok (.lload 13, 2) := by decide +kernel
theorem d_Mo_inLine_115 : decode c_yMo_inLine 115 = .ok (.lcmp, 1) := by decide +kernel
theorem d_Mo_inLine_116 : decode c_yMo_inLine 116 = .ok (.ifCond .lt 40, 3) := by decide +kernel
theorem d_Mo_inLine_119 : decode c_yMo_inLine 119 = .ok (.ldc2_w 67, 3) := by decide +kernel
theorem d_Mo_inLine_122 : decode c_yMo_inLine 122 = .ok (.lload 7, 2) := by decide +kernel
theorem d_Mo_inLine_124 : decode c_yMo_inLine 124 = .ok (.lload_n 3, 1) := by decide +kernel
theorem d_Mo_inLine_125 : decode c_yMo_inLine 125 = .ok (.lsub, 1) := by decide +kernel
theorem d_Mo_inLine_126 : decode c_yMo_inLine 126 = .ok (.lload 7, 2) := by decide +kernel
theorem d_Mo_inLine_128 : decode c_yMo_inLine 128 = .ok (.lload_n 3, 1) := by decide +kernel
theorem d_Mo_inLine_129 : decode c_yMo_inLine 129 = .ok (.lsub, 1) := by decide +kernel
theorem d_Mo_inLine_130 : decode c_yMo_inLine 130 = .ok (.lmul, 1) := by decide +kernel
theorem d_Mo_inLine_131 : decode c_yMo_inLine 131 = .ok (.lload 9, 2) := by decide +kernel
theorem d_Mo_inLine_133 : decode c_yMo_inLine 133 = .ok (.lload 5, 2) := by decide +kernel
theorem d_Mo_inLine_135 : decode c_yMo_inLine 135 = .ok (.lsub, 1) := by decide +kernel
theorem d_Mo_inLine_136 : decode c_yMo_inLine 136 = .ok (.lload 9, 2) := by decide +kernel
theorem d_Mo_inLine_138 : decode c_yMo_inLine 138 = .ok (.lload 5, 2) := by decide +kernel
theorem d_Mo_inLine_140 : decode c_yMo_inLine 140 = .ok (.lsub, 1) := by decide +kernel
theorem d_Mo_inLine_141 : decode c_yMo_inLine 141 = .ok (.lmul, 1) := by decide +kernel
theorem d_Mo_inLine_142 : decode c_yMo_inLine 142 = .ok (.ladd, 1) := by decide +kernel
theorem d_Mo_inLine_143 : decode c_yMo_inLine 143 = .ok (.lmul, 1) := by decide +kernel
theorem d_Mo_inLine_144 : decode c_yMo_inLine 144 = .ok (.lload 11, 2) := by decide +kernel
theorem d_Mo_inLine_146 : decode c_yMo_inLine 146 = .ok (.lcmp, 1) := by decide +kernel
theorem d_Mo_inLine_147 : decode c_yMo_inLine 147 = .ok (.ifCond .gt 7, 3) := by decide +kernel
theorem d_Mo_inLine_150 : decode c_yMo_inLine 150 = .ok (.iconst 1, 1) := by decide +kernel
theorem d_Mo_inLine_151 : decode c_yMo_inLine 151 = .ok (.goto 4, 3) := by decide +kernel
theorem d_Mo_inLine_154 : decode c_yMo_inLine 154 = .ok (.iconst 0, 1) := by decide +kernel
theorem d_Mo_inLine_155 : decode c_yMo_inLine 155 = .ok (.ireturn, 1) := by decide +kernel
theorem d_Mo_inLine_156 : decode c_yMo_inLine 156 = .ok (.lload_n 3, 1) := by decide +kernel
theorem d_Mo_inLine_157 : decode c_yMo_inLine 157 = .ok (.lload 9, 2) := by decide +kernel
theorem d_Mo_inLine_159 : decode c_yMo_inLine 159 = .ok (.lmul, 1) := by decide +kernel
theorem d_Mo_inLine_160 : decode c_yMo_inLine 160 = .ok (.lload 5, 2) := by decide +kernel
theorem d_Mo_inLine_162 : decode c_yMo_inLine 162 = .ok (.lload 7, 2) := by decide +kernel
theorem d_Mo_inLine_164 : decode c_yMo_inLine 164 = .ok (.lmul, 1) := by decide +kernel
theorem d_Mo_inLine_165 : decode c_yMo_inLine 165 = .ok (.lsub, 1) := by decide +kernel
theorem d_Mo_inLine_166 : decode c_yMo_inLine 166 = .ok (.lstore 17, 2) := by decide +kernel
theorem d_Mo_inLine_168 : decode c_yMo_inLine 168 = .ok (.ldc2_w 67, 3) := by decide +kernel
theorem d_Mo_inLine_171 : decode c_yMo_inLine 171 = .ok (.lload 17, 2) := by decide +kernel
theorem d_Mo_inLine_173 : decode c_yMo_inLine 173 = .ok (.lmul, 1) := by decide +kernel
theorem d_Mo_inLine_174 : decode c_yMo_inLine 174 = .ok (.lload 17, 2) := by decide +kernel
theorem d_Mo_inLine_176 : decode c_yMo_inLine 176 = .ok (.lmul, 1) := by decide +kernel
theorem d_Mo_inLine_177 : decode c_yMo_inLine 177 = .ok (.lload 11, 2) := by decide +kernel
theorem d_Mo_inLine_179 : decode c_yMo_inLine 179 = .ok (.lload 13, 2) := by decide +kernel
theorem d_Mo_inLine_181 : decode c_yMo_inLine 181 = .ok (.lmul, 1) := by decide +kernel
theorem d_Mo_inLine_182 : decode c_yMo_inLine 182 = .ok (.lcmp, 1) := by decide +kernel
theorem d_Mo_inLine_183 : decode c_yMo_inLine 183 = .ok (.ifCond .gt 7, 3) := by decide +kernel
theorem d_Mo_inLine_186 : decode c_yMo_inLine 186 = .ok (.iconst 1, 1) := by decide +kernel
theorem d_Mo_inLine_187 : decode c_yMo_inLine 187 = .ok (.goto 4, 3) := by decide +kernel
theorem d_Mo_inLine_190 : decode c_yMo_inLine 190 = .ok (.iconst 0, 1) := by decide +kernel
theorem d_Mo_inLine_191 : decode c_yMo_inLine 191 = .ok (.ireturn, 1) := by decide +kernel
set_option maxHeartbeats 4000000 in
set_option maxRecDepth 100000 in
theorem c_Model_inLine (l : Launch) (dC : Nat → ClassId) (dI : Nat → Nat → Nat) (hm zd zb zt zs zc zo : Nat) (tw w h mn n fx fy fa fb fc qr fo px py : Int) (px1 : 0 ≤ px) (px2 : px ≤ 1023) (py1 : 0 ≤ py) (py2 : py ≤ 1023) (fx1 : -4096 ≤ fx) (fx2 : fx ≤ 4096) (fy1 : -4096 ≤ fy) (fy2 : fy ≤ 4096) (fa1 : -4096 ≤ fa) (fa2 : fa ≤ 4096) (fb1 : -4096 ≤ fb) (fb2 : fb ≤ 4096) (fc1 : 1 ≤ fc) (fc2 : fc ≤ 200) : Met l y_Mo_inLine w_Mo_inLine ({ frames := 0, cells := 0, slots := 0, locals := 0 }) (va_Pc [.ref hm, .int (iZ px), .int (iZ py)] (zPr (dC, dI) vwCl [(hm, .inr (6, [.int (iZ tw), .int (iZ w), .int (iZ h), .int (iZ mn), .ref zd, .ref zb, .ref zt, .int (iZ n), .ref zs, .ref zc, .int (iZ fx), .int (iZ fy), .int (iZ fa), .int (iZ fb), .int (iZ fc), .int (iZ qr), .int (iZ fo), .ref zo]))] [])) (vp_Si (fun r => r = bI (lnD fx fy fa fb fc px py))) 0 0 (fun _ => False) := by
  refine Met.ofW (cc := c_yMo_inLine) (maxL := 19) (ret := (some .boolean)) (by decide) rfl ?_
  intro p e s m args below meth c s₁ B hml hv
  obtain ⟨rfl, hP, hK⟩ := hv
  have hx := B.exec
  have hb := B.bytes
  have hr := B.returns
  have hts0 := atoms_spec (ws := w_Mo_inLine) B.pre
  have hts : ∀ w ∈ gT, w.before _ s = true := fun w h => hts0 w (List.mem_cons_of_mem _ h)
  have hown : s.vm.findClass R_Mo = some m.cls := findClass_of_methodNamed B.named
  have hlocks := B.notSynchronized
  have hl := lv_entry ([.ref hm, .int (iZ px), .int (iZ py)]) (n := 19) (Nat.le_of_ble_eq_true rfl)
  rw [lg_entry_eq]
  generalize (lg_sl ([.ref hm, .int (iZ px), .int (iZ py)]) ++ List.replicate (19 - (lg_sl ([.ref hm, .int (iZ px), .int (iZ py)])).length) Slot.unset).toArray = ls at hl ⊢
  have hl : lv_has ls 19 [(0, .ref hm), (1, .int (iZ px)), (2, .int (iZ py))] := hl
  refine lv_aload_n hx hb d_Mo_inLine_0 rfl (lv_at hl 0 rfl) ?_
  refine va_get (D := (dC, dI)) (ci := 6) (v := .int (iZ fa)) (C := R_Mo) (T := T_Mo) (N := 18) hx hb hts wi_Mo hown hK hP 0 rfl rfl 12 (by decide) (hts _ t_696) (fun _ h9 => h9) rfl d_Mo_inLine_1 ?_
  refine lv_aload_n hx hb d_Mo_inLine_4 rfl (lv_at hl 0 rfl) ?_
  refine va_get (D := (dC, dI)) (ci := 6) (v := .int (iZ fx)) (C := R_Mo) (T := T_Mo) (N := 18) hx hb hts wi_Mo hown hK hP 0 rfl rfl 10 (by decide) (hts _ t_694) (fun _ h9 => h9) rfl d_Mo_inLine_5 ?_
  refine zi_sub hx hb d_Mo_inLine_8 ?_
  refine zi_l hx hb d_Mo_inLine_9 (by omega) (by omega) ?_
  refine zn_Z (fun dx e_dx => ?_)
  refine lv_lstore_n (lv' := [(3, .long (lZ dx)), (0, .ref hm), (1, .int (iZ px)), (2, .int (iZ py))]) hx hb d_Mo_inLine_10 rfl hl (by decide) rfl (fun ls hl => ?_)
  refine lv_aload_n hx hb d_Mo_inLine_11 rfl (lv_at hl 1 rfl) ?_
  refine va_get (D := (dC, dI)) (ci := 6) (v := .int (iZ fb)) (C := R_Mo) (T := T_Mo) (N := 18) hx hb hts wi_Mo hown hK hP 0 rfl rfl 13 (by decide) (hts _ t_697) (fun _ h9 => h9) rfl d_Mo_inLine_12 ?_
  refine lv_aload_n hx hb d_Mo_inLine_15 rfl (lv_at hl 1 rfl) ?_
  refine va_get (D := (dC, dI)) (ci := 6) (v := .int (iZ fy)) (C := R_Mo) (T := T_Mo) (N := 18) hx hb hts wi_Mo hown hK hP 0 rfl rfl 11 (by decide) (hts _ t_695) (fun _ h9 => h9) rfl d_Mo_inLine_16 ?_
  refine zi_sub hx hb d_Mo_inLine_19 ?_
  refine zi_l hx hb d_Mo_inLine_20 (by omega) (by omega) ?_
  refine zn_Z (fun dy e_dy => ?_)
  refine lv_lstore (lv' := [(5, .long (lZ dy)), (3, .long (lZ dx)), (0, .ref hm), (1, .int (iZ px)), (2, .int (iZ py))]) hx hb d_Mo_inLine_21 hl (by decide) rfl (fun ls hl => ?_)
  refine lv_iload_n hx hb d_Mo_inLine_23 rfl (lv_at hl 3 rfl) ?_
  refine lv_aload_n hx hb d_Mo_inLine_24 rfl (lv_at hl 2 rfl) ?_
  refine va_get (D := (dC, dI)) (ci := 6) (v := .int (iZ fx)) (C := R_Mo) (T := T_Mo) (N := 18) hx hb hts wi_Mo hown hK hP 0 rfl rfl 10 (by decide) (hts _ t_694) (fun _ h9 => h9) rfl d_Mo_inLine_25 ?_
  refine zi_sub hx hb d_Mo_inLine_28 ?_
  refine zi_l hx hb d_Mo_inLine_29 (by omega) (by omega) ?_
  refine zn_Z (fun ex e_ex => ?_)
  refine lv_lstore (lv' := [(7, .long (lZ ex)), (5, .long (lZ dy)), (3, .long (lZ dx)), (0, .ref hm), (1, .int (iZ px)), (2, .int (iZ py))]) hx hb d_Mo_inLine_30 hl (by decide) rfl (fun ls hl => ?_)
  refine lv_iload_n hx hb d_Mo_inLine_32 rfl (lv_at hl 5 rfl) ?_
  refine lv_aload_n hx hb d_Mo_inLine_33 rfl (lv_at hl 3 rfl) ?_
  refine va_get (D := (dC, dI)) (ci := 6) (v := .int (iZ fy)) (C := R_Mo) (T := T_Mo) (N := 18) hx hb hts wi_Mo hown hK hP 0 rfl rfl 11 (by decide) (hts _ t_695) (fun _ h9 => h9) rfl d_Mo_inLine_34 ?_
  refine zi_sub hx hb d_Mo_inLine_37 ?_
  refine zi_l hx hb d_Mo_inLine_38 (by omega) (by omega) ?_
  refine zn_Z (fun ey e_ey => ?_)
  refine lv_lstore (lv' := [(9, .long (lZ ey)), (7, .long (lZ ex)), (5, .long (lZ dy)), (3, .long (lZ dx)), (0, .ref hm), (1, .int (iZ px)), (2, .int (iZ py))]) hx hb d_Mo_inLine_39 hl (by decide) rfl (fun ls hl => ?_)
  refine lv_aload_n hx hb d_Mo_inLine_41 rfl (lv_at hl 4 rfl) ?_
  refine va_get (D := (dC, dI)) (ci := 6) (v := .int (iZ fc)) (C := R_Mo) (T := T_Mo) (N := 18) hx hb hts wi_Mo hown hK hP 0 rfl rfl 14 (by decide) (hts _ t_698) (fun _ h9 => h9) rfl d_Mo_inLine_42 ?_
  refine zi_l hx hb d_Mo_inLine_45 (by omega) (by omega) ?_
  refine lv_aload_n hx hb d_Mo_inLine_46 rfl (lv_at hl 4 rfl) ?_
  refine va_get (D := (dC, dI)) (ci := 6) (v := .int (iZ fc)) (C := R_Mo) (T := T_Mo) (N := 18) hx hb hts wi_Mo hown hK hP 0 rfl rfl 14 (by decide) (hts _ t_698) (fun _ h9 => h9) rfl d_Mo_inLine_47 ?_
  refine zi_l hx hb d_Mo_inLine_50 (by omega) (by omega) ?_
  refine zl_mul hx hb d_Mo_inLine_51 ?_
  refine zn_Z (fun tt e_tt => ?_)
  refine lv_lstore (lv' := [(11, .long (lZ tt)), (9, .long (lZ ey)), (7, .long (lZ ex)), (5, .long (lZ dy)), (3, .long (lZ dx)), (0, .ref hm), (1, .int (iZ px)), (2, .int (iZ py))]) hx hb d_Mo_inLine_52 hl (by decide) rfl (fun ls hl => ?_)
  have m1 := mul_ab (a := dx) (b := dx) (A := 8192) (B := 8192) (by omega) (by omega) (by omega) (by omega)
  have m2 := mul_ab (a := dy) (b := dy) (A := 8192) (B := 8192) (by omega) (by omega) (by omega) (by omega)
  have m3 := mul_ab (a := dx) (b := ex) (A := 8192) (B := 5119) (by omega) (by omega) (by omega) (by omega)
  have m4 := mul_ab (a := dy) (b := ey) (A := 8192) (B := 5119) (by omega) (by omega) (by omega) (by omega)
  have m5 := mul_ab (a := ex) (b := ex) (A := 5119) (B := 5119) (by omega) (by omega) (by omega) (by omega)
  have m6 := mul_ab (a := ey) (b := ey) (A := 5119) (B := 5119) (by omega) (by omega) (by omega) (by omega)
  have m7 := mul_ab (a := dx) (b := ey) (A := 8192) (B := 5119) (by omega) (by omega) (by omega) (by omega)
  have m8 := mul_ab (a := dy) (b := ex) (A := 8192) (B := 5119) (by omega) (by omega) (by omega) (by omega)
  have m9 := mul_ab (a := (ex - dx)) (b := (ex - dx)) (A := 13311) (B := 13311) (by omega) (by omega) (by omega) (by omega)
  have m10 := mul_ab (a := (ey - dy)) (b := (ey - dy)) (A := 13311) (B := 13311) (by omega) (by omega) (by omega) (by omega)
  have m11 := mul_ab (a := fc) (b := fc) (A := 200) (B := 200) (by omega) (by omega) (by omega) (by omega)
  have m12 := sq_nn dx
  have m13 := sq_nn dy
  have m14 := sq_nn fc
  refine lv_lload_n hx hb d_Mo_inLine_54 rfl (lv_at hl 4 rfl) ?_
  refine lv_lload_n hx hb d_Mo_inLine_55 rfl (lv_at hl 4 rfl) ?_
  refine zl_mul hx hb d_Mo_inLine_56 ?_
  refine lv_lload hx hb d_Mo_inLine_57 (lv_at hl 3 rfl) ?_
  refine lv_lload hx hb d_Mo_inLine_59 (lv_at hl 3 rfl) ?_
  refine zl_mul hx hb d_Mo_inLine_61 ?_
  refine zl_add hx hb d_Mo_inLine_62 ?_
  refine zn_Z (fun len e_len => ?_)
  refine lv_lstore (lv' := [(13, .long (lZ len)), (11, .long (lZ tt)), (9, .long (lZ ey)), (7, .long (lZ ex)), (5, .long (lZ dy)), (3, .long (lZ dx)), (0, .ref hm), (1, .int (iZ px)), (2, .int (iZ py))]) hx hb d_Mo_inLine_63 hl (by decide) rfl (fun ls hl => ?_)
  refine lv_lload_n hx hb d_Mo_inLine_65 rfl (lv_at hl 5 rfl) ?_
  refine lv_lload hx hb d_Mo_inLine_66 (lv_at hl 3 rfl) ?_
  refine zl_mul hx hb d_Mo_inLine_68 ?_
  refine lv_lload hx hb d_Mo_inLine_69 (lv_at hl 4 rfl) ?_
  refine lv_lload hx hb d_Mo_inLine_71 (lv_at hl 2 rfl) ?_
  refine zl_mul hx hb d_Mo_inLine_73 ?_
  refine zl_add hx hb d_Mo_inLine_74 ?_
  refine zn_Z (fun alo e_alo => ?_)
  refine lv_lstore (lv' := [(15, .long (lZ alo)), (13, .long (lZ len)), (11, .long (lZ tt)), (9, .long (lZ ey)), (7, .long (lZ ex)), (5, .long (lZ dy)), (3, .long (lZ dx)), (0, .ref hm), (1, .int (iZ px)), (2, .int (iZ py))]) hx hb d_Mo_inLine_75 hl (by decide) rfl (fun ls hl => ?_)
  refine lv_lload hx hb d_Mo_inLine_77 (lv_at hl 0 rfl) ?_
  refine lv_lconst (v := lZ 0) hx hb d_Mo_inLine_79 (by decide) ?_
  refine zl_gt (tgt := 111) hx hb d_Mo_inLine_80 d_Mo_inLine_81 (by decide) (by omega) (by omega) (by omega) (by omega) (fun c_80 => ?_) (fun c_80 => ?_)
  · have g1 : ¬ (fa - fx) * (px - fx) + (fb - fy) * (py - fy) ≤ 0 := by rw [← e_dx, ← e_dy, ← e_ex, ← e_ey]; omega
    refine lv_lload hx hb d_Mo_inLine_111 (lv_at hl 0 rfl) ?_
    refine lv_lload hx hb d_Mo_inLine_113 (lv_at hl 1 rfl) ?_
    refine zl_lt (tgt := 156) hx hb d_Mo_inLine_115 d_Mo_inLine_116 (by decide) (by omega) (by omega) (by omega) (by omega) (fun c_115 => ?_) (fun c_115 => ?_)
    · have g3 : ¬ (fa - fx) * (px - fx) + (fb - fy) * (py - fy) ≥ (fa - fx) * (fa - fx) + (fb - fy) * (fb - fy) := by rw [← e_dx, ← e_dy, ← e_ex, ← e_ey]; omega
      refine lv_lload_n hx hb d_Mo_inLine_156 rfl (lv_at hl 6 rfl) ?_
      refine lv_lload hx hb d_Mo_inLine_157 (lv_at hl 3 rfl) ?_
      refine zl_mul hx hb d_Mo_inLine_159 ?_
      refine lv_lload hx hb d_Mo_inLine_160 (lv_at hl 5 rfl) ?_
      refine lv_lload hx hb d_Mo_inLine_162 (lv_at hl 4 rfl) ?_
      refine zl_mul hx hb d_Mo_inLine_164 ?_
      refine zl_sub hx hb d_Mo_inLine_165 ?_
      refine zn_Z (fun acx e_acx => ?_)
      refine lv_lstore (lv' := [(17, .long (lZ acx)), (15, .long (lZ alo)), (13, .long (lZ len)), (11, .long (lZ tt)), (9, .long (lZ ey)), (7, .long (lZ ex)), (5, .long (lZ dy)), (3, .long (lZ dx)), (0, .ref hm), (1, .int (iZ px)), (2, .int (iZ py))]) hx hb d_Mo_inLine_166 hl (by decide) rfl (fun ls hl => ?_)
      have m15 := mul_ab (a := acx) (b := acx) (A := 83869696) (B := 83869696) (by omega) (by omega) (by omega) (by omega)
      have m16 : tt * len ≤ 40000 * 134217728 := Int.mul_le_mul (by omega) (by omega) (by omega) (by decide)
      have m17 : 0 ≤ tt * len := Int.mul_nonneg (by omega) (by omega)
      have m18 : 4 * acx * acx = 4 * (acx * acx) := Int.mul_assoc 4 acx acx
      have m19 : fc * fc * (dx * dx + dy * dy) = tt * len := by rw [e_tt, e_len]
      have m20 : (dx * ey - dy * ex) * (dx * ey - dy * ex) = acx * acx := by rw [e_acx]
      refine lv_ldc2 (v := lZ (4)) hx hb hown (hts _ t_794) d_Mo_inLine_168 ?_
      refine lv_lload hx hb d_Mo_inLine_171 (lv_at hl 0 rfl) ?_
      refine zl_mul hx hb d_Mo_inLine_173 ?_
      refine lv_lload hx hb d_Mo_inLine_174 (lv_at hl 0 rfl) ?_
      refine zl_mul hx hb d_Mo_inLine_176 ?_
      refine lv_lload hx hb d_Mo_inLine_177 (lv_at hl 3 rfl) ?_
      refine lv_lload hx hb d_Mo_inLine_179 (lv_at hl 2 rfl) ?_
      refine zl_mul hx hb d_Mo_inLine_181 ?_
      refine zl_gt (tgt := 190) hx hb d_Mo_inLine_182 d_Mo_inLine_183 (by decide) (by omega) (by omega) (by omega) (by omega) (fun c_182 => ?_) (fun c_182 => ?_)
      · refine lv_iconst (v := iZ (0)) hx hb d_Mo_inLine_190 rfl ?_
        exact W.zret (ty := .boolean) hx hb hr (by decide) (fun t ht hW => ⟨_, rfl, by rw [lnD_f (fun z9 => by have z8 := (ln_3 g1 g3).mp z9; rw [← e_dx, ← e_dy, ← e_ex, ← e_ey] at z8; omega)]; rfl, ht⟩) (fun q h => nomatch h) d_Mo_inLine_191
      · refine lv_iconst (v := iZ (1)) hx hb d_Mo_inLine_186 rfl ?_
        refine lv_goto (tgt := 191) hx hb d_Mo_inLine_187 (by decide) ?_
        exact W.zret (ty := .boolean) hx hb hr (by decide) (fun t ht hW => ⟨_, rfl, by rw [lnD_t ((ln_3 g1 g3).mpr (by rw [← e_dx, ← e_dy, ← e_ex, ← e_ey]; omega))]; rfl, ht⟩) (fun q h => nomatch h) d_Mo_inLine_191
    · have g2 : (fa - fx) * (px - fx) + (fb - fy) * (py - fy) ≥ (fa - fx) * (fa - fx) + (fb - fy) * (fb - fy) := by rw [← e_dx, ← e_dy, ← e_ex, ← e_ey]; omega
      refine lv_ldc2 (v := lZ (4)) hx hb hown (hts _ t_794) d_Mo_inLine_119 ?_
      refine lv_lload hx hb d_Mo_inLine_122 (lv_at hl 4 rfl) ?_
      refine lv_lload_n hx hb d_Mo_inLine_124 rfl (lv_at hl 6 rfl) ?_
      refine zl_sub hx hb d_Mo_inLine_125 ?_
      refine lv_lload hx hb d_Mo_inLine_126 (lv_at hl 4 rfl) ?_
      refine lv_lload_n hx hb d_Mo_inLine_128 rfl (lv_at hl 6 rfl) ?_
      refine zl_sub hx hb d_Mo_inLine_129 ?_
      refine zl_mul hx hb d_Mo_inLine_130 ?_
      refine lv_lload hx hb d_Mo_inLine_131 (lv_at hl 3 rfl) ?_
      refine lv_lload hx hb d_Mo_inLine_133 (lv_at hl 5 rfl) ?_
      refine zl_sub hx hb d_Mo_inLine_135 ?_
      refine lv_lload hx hb d_Mo_inLine_136 (lv_at hl 3 rfl) ?_
      refine lv_lload hx hb d_Mo_inLine_138 (lv_at hl 5 rfl) ?_
      refine zl_sub hx hb d_Mo_inLine_140 ?_
      refine zl_mul hx hb d_Mo_inLine_141 ?_
      refine zl_add hx hb d_Mo_inLine_142 ?_
      refine zl_mul hx hb d_Mo_inLine_143 ?_
      refine lv_lload hx hb d_Mo_inLine_144 (lv_at hl 2 rfl) ?_
      refine zl_gt (tgt := 154) hx hb d_Mo_inLine_146 d_Mo_inLine_147 (by decide) (by omega) (by omega) (by omega) (by omega) (fun c_146 => ?_) (fun c_146 => ?_)
      · refine lv_iconst (v := iZ (0)) hx hb d_Mo_inLine_154 rfl ?_
        exact W.zret (ty := .boolean) hx hb hr (by decide) (fun t ht hW => ⟨_, rfl, by rw [lnD_f (fun z9 => by have z8 := (ln_2 g1 g2).mp z9; rw [← e_dx, ← e_dy, ← e_ex, ← e_ey] at z8; omega)]; rfl, ht⟩) (fun q h => nomatch h) d_Mo_inLine_155
      · refine lv_iconst (v := iZ (1)) hx hb d_Mo_inLine_150 rfl ?_
        refine lv_goto (tgt := 155) hx hb d_Mo_inLine_151 (by decide) ?_
        exact W.zret (ty := .boolean) hx hb hr (by decide) (fun t ht hW => ⟨_, rfl, by rw [lnD_t ((ln_2 g1 g2).mpr (by rw [← e_dx, ← e_dy, ← e_ex, ← e_ey]; omega))]; rfl, ht⟩) (fun q h => nomatch h) d_Mo_inLine_155
  · have g1 : (fa - fx) * (px - fx) + (fb - fy) * (py - fy) ≤ 0 := by rw [← e_dx, ← e_dy, ← e_ex, ← e_ey]; omega
    refine lv_ldc2 (v := lZ (4)) hx hb hown (hts _ t_794) d_Mo_inLine_84 ?_
    refine lv_lload hx hb d_Mo_inLine_87 (lv_at hl 4 rfl) ?_
    refine lv_lload hx hb d_Mo_inLine_89 (lv_at hl 4 rfl) ?_
    refine zl_mul hx hb d_Mo_inLine_91 ?_
    refine lv_lload hx hb d_Mo_inLine_92 (lv_at hl 3 rfl) ?_
    refine lv_lload hx hb d_Mo_inLine_94 (lv_at hl 3 rfl) ?_
    refine zl_mul hx hb d_Mo_inLine_96 ?_
    refine zl_add hx hb d_Mo_inLine_97 ?_
    refine zl_mul hx hb d_Mo_inLine_98 ?_
    refine lv_lload hx hb d_Mo_inLine_99 (lv_at hl 2 rfl) ?_
    refine zl_gt (tgt := 109) hx hb d_Mo_inLine_101 d_Mo_inLine_102 (by decide) (by omega) (by omega) (by omega) (by omega) (fun c_101 => ?_) (fun c_101 => ?_)
    · refine lv_iconst (v := iZ (0)) hx hb d_Mo_inLine_109 rfl ?_
      exact W.zret (ty := .boolean) hx hb hr (by decide) (fun t ht hW => ⟨_, rfl, by rw [lnD_f (fun z9 => by have z8 := (ln_1 g1).mp z9; rw [← e_ex, ← e_ey] at z8; omega)]; rfl, ht⟩) (fun q h => nomatch h) d_Mo_inLine_110
    · refine lv_iconst (v := iZ (1)) hx hb d_Mo_inLine_105 rfl ?_
      refine lv_goto (tgt := 110) hx hb d_Mo_inLine_106 (by decide) ?_
      exact W.zret (ty := .boolean) hx hb hr (by decide) (fun t ht hW => ⟨_, rfl, by rw [lnD_t ((ln_1 g1).mpr (by rw [← e_ex, ← e_ey]; omega))]; rfl, ht⟩) (fun q h => nomatch h) d_Mo_inLine_110
theorem d_Mo_inOval_0 : decode c_yMo_inOval 0 = .ok (.lload_n 0, 1) := by decide +kernel
theorem d_Mo_inOval_1 : decode c_yMo_inOval 1 = .ok (.lload 6, 2) := by decide +kernel
theorem d_Mo_inOval_3 : decode c_yMo_inOval 3 = .ok (.lmul, 1) := by decide +kernel
theorem d_Mo_inOval_4 : decode c_yMo_inOval 4 = .ok (.lload_n 0, 1) := by decide +kernel
theorem d_Mo_inOval_5 : decode c_yMo_inOval 5 = .ok (.lload 6, 2) := by decide +kernel
theorem d_Mo_inOval_7 : decode c_yMo_inOval 7 = .ok (.lmul, 1) := by decide +kernel
theorem d_Mo_inOval_8 : decode c_yMo_inOval 8 = .ok (.lmul, 1) := by decide +kernel
theorem d_Mo_inOval_9 : decode c_yMo_inOval 9 = .ok (.lload_n 2, 1) := by decide +kernel
theorem d_Mo_inOval_10 : decode c_yMo_inOval 10 = .ok (.lload 4, 2) := by decide +kernel
theorem d_Mo_inOval_12 : decode c_yMo_inOval 12 = .ok (.lmul, 1) := by decide +kernel
theorem d_Mo_inOval_13 : decode c_yMo_inOval 13 = .ok (.lload_n 2, 1) := by decide +kernel
theorem d_Mo_inOval_14 : decode c_yMo_inOval 14 = .ok (.lload 4, 2) := by decide +kernel
theorem d_Mo_inOval_16 : decode c_yMo_inOval 16 = .ok (.lmul, 1) := by decide +kernel
theorem d_Mo_inOval_17 : decode c_yMo_inOval 17 = .ok (.lmul, 1) := by decide +kernel
theorem d_Mo_inOval_18 : decode c_yMo_inOval 18 = .ok (.ladd, 1) := by decide +kernel
theorem d_Mo_inOval_19 : decode c_yMo_inOval 19 = .ok (.lload 4, 2) := by decide +kernel
theorem d_Mo_inOval_21 : decode c_yMo_inOval 21 = .ok (.lload 6, 2) := by decide +kernel
theorem d_Mo_inOval_23 : decode c_yMo_inOval 23 = .ok (.lmul, 1) := by decide +kernel
theorem d_Mo_inOval_24 : decode c_yMo_inOval 24 = .ok (.lload 4, 2) := by decide +kernel
theorem d_Mo_inOval_26 : decode c_yMo_inOval 26 = .ok (.lload 6, 2) := by decide +kernel
theorem d_Mo_inOval_28 : decode c_yMo_inOval 28 = .ok (.lmul, 1) := by decide +kernel
theorem d_Mo_inOval_29 : decode c_yMo_inOval 29 = .ok (.lmul, 1) := by decide +kernel
theorem d_Mo_inOval_30 : decode c_yMo_inOval 30 = .ok (.lcmp, 1) := by decide +kernel
theorem d_Mo_inOval_31 : decode c_yMo_inOval 31 = .ok (.ifCond .gt 7, 3) := by decide +kernel
theorem d_Mo_inOval_34 : decode c_yMo_inOval 34 = .ok (.iconst 1, 1) := by decide +kernel
theorem d_Mo_inOval_35 : decode c_yMo_inOval 35 = .ok (.goto 4, 3) := by decide +kernel
theorem d_Mo_inOval_38 : decode c_yMo_inOval 38 = .ok (.iconst 0, 1) := by decide +kernel
theorem d_Mo_inOval_39 : decode c_yMo_inOval 39 = .ok (.ireturn, 1) := by decide +kernel
set_option maxHeartbeats 4000000 in
set_option maxRecDepth 100000 in
theorem c_Model_inOval (l : Launch) (dC : Nat → ClassId) (dI : Nat → Nat → Nat) (u v a b : Int) (u1 : -20000 ≤ u) (u2 : u ≤ 20000) (v1 : -20000 ≤ v) (v2 : v ≤ 20000) (a1 : 0 ≤ a) (a2 : a ≤ 2048) (b1 : 0 ≤ b) (b2 : b ≤ 2048) : Met l y_Mo_inOval w_Mo_inOval ({ frames := 0, cells := 0, slots := 0, locals := 0 }) (va_Pc [.long (lZ u), .long (lZ v), .long (lZ a), .long (lZ b)] (zPr (dC, dI) vwCl [] [])) (vp_Si (fun r => r = bI (ovD u v a b))) 0 0 (fun _ => False) := by
  refine Met.ofW (cc := c_yMo_inOval) (maxL := 8) (ret := (some .boolean)) (by decide) rfl ?_
  intro p e s m args below meth c s₁ B hml hv
  obtain ⟨rfl, hP, hK⟩ := hv
  have hx := B.exec
  have hb := B.bytes
  have hr := B.returns
  have hts0 := atoms_spec (ws := w_Mo_inOval) B.pre
  have hts : ∀ w ∈ gT, w.before _ s = true := fun w h => hts0 w (List.mem_cons_of_mem _ h)
  have hown : s.vm.findClass R_Mo = some m.cls := findClass_of_methodNamed B.named
  have hlocks := B.notSynchronized
  have hl := lv_entry ([.long (lZ u), .long (lZ v), .long (lZ a), .long (lZ b)]) (n := 8) (Nat.le_of_ble_eq_true rfl)
  rw [lg_entry_eq]
  generalize (lg_sl ([.long (lZ u), .long (lZ v), .long (lZ a), .long (lZ b)]) ++ List.replicate (8 - (lg_sl ([.long (lZ u), .long (lZ v), .long (lZ a), .long (lZ b)])).length) Slot.unset).toArray = ls at hl ⊢
  have hl : lv_has ls 8 [(0, .long (lZ u)), (2, .long (lZ v)), (4, .long (lZ a)), (6, .long (lZ b))] := hl
  have m1 := mul_ab (a := u) (b := b) (A := 20000) (B := 2048) (by omega) (by omega) (by omega) (by omega)
  have m2 := mul_ab (a := v) (b := a) (A := 20000) (B := 2048) (by omega) (by omega) (by omega) (by omega)
  have m3 := mul_ab (a := a) (b := b) (A := 2048) (B := 2048) (by omega) (by omega) (by omega) (by omega)
  have m4 := mul_ab (a := u * b) (b := u * b) (A := 40960000) (B := 40960000) (by omega) (by omega) (by omega) (by omega)
  have m5 := mul_ab (a := v * a) (b := v * a) (A := 40960000) (B := 40960000) (by omega) (by omega) (by omega) (by omega)
  have m6 := mul_ab (a := a * b) (b := a * b) (A := 4194304) (B := 4194304) (by omega) (by omega) (by omega) (by omega)
  refine lv_lload_n hx hb d_Mo_inOval_0 rfl (lv_at hl 0 rfl) ?_
  refine lv_lload hx hb d_Mo_inOval_1 (lv_at hl 3 rfl) ?_
  refine zl_mul hx hb d_Mo_inOval_3 ?_
  refine lv_lload_n hx hb d_Mo_inOval_4 rfl (lv_at hl 0 rfl) ?_
  refine lv_lload hx hb d_Mo_inOval_5 (lv_at hl 3 rfl) ?_
  refine zl_mul hx hb d_Mo_inOval_7 ?_
  refine zl_mul hx hb d_Mo_inOval_8 ?_
  refine lv_lload_n hx hb d_Mo_inOval_9 rfl (lv_at hl 1 rfl) ?_
  refine lv_lload hx hb d_Mo_inOval_10 (lv_at hl 2 rfl) ?_
  refine zl_mul hx hb d_Mo_inOval_12 ?_
  refine lv_lload_n hx hb d_Mo_inOval_13 rfl (lv_at hl 1 rfl) ?_
  refine lv_lload hx hb d_Mo_inOval_14 (lv_at hl 2 rfl) ?_
  refine zl_mul hx hb d_Mo_inOval_16 ?_
  refine zl_mul hx hb d_Mo_inOval_17 ?_
  refine zl_add hx hb d_Mo_inOval_18 ?_
  refine lv_lload hx hb d_Mo_inOval_19 (lv_at hl 2 rfl) ?_
  refine lv_lload hx hb d_Mo_inOval_21 (lv_at hl 3 rfl) ?_
  refine zl_mul hx hb d_Mo_inOval_23 ?_
  refine lv_lload hx hb d_Mo_inOval_24 (lv_at hl 2 rfl) ?_
  refine lv_lload hx hb d_Mo_inOval_26 (lv_at hl 3 rfl) ?_
  refine zl_mul hx hb d_Mo_inOval_28 ?_
  refine zl_mul hx hb d_Mo_inOval_29 ?_
  refine zl_gt (tgt := 38) hx hb d_Mo_inOval_30 d_Mo_inOval_31 (by decide) (by omega) (by omega) (by omega) (by omega) (fun c_30 => ?_) (fun c_30 => ?_)
  · refine lv_iconst (v := iZ (0)) hx hb d_Mo_inOval_38 rfl ?_
    exact W.zret (ty := .boolean) hx hb hr (by decide) (fun t ht hW => ⟨_, rfl, by rw [ovD_f (fun z9 => by unfold ovP at z9; omega)]; rfl, ht⟩) (fun q h => nomatch h) d_Mo_inOval_39
  · refine lv_iconst (v := iZ (1)) hx hb d_Mo_inOval_34 rfl ?_
    refine lv_goto (tgt := 39) hx hb d_Mo_inOval_35 (by decide) ?_
    exact W.zret (ty := .boolean) hx hb hr (by decide) (fun t ht hW => ⟨_, rfl, by rw [ovD_t (by unfold ovP; omega)]; rfl, ht⟩) (fun q h => nomatch h) d_Mo_inOval_39
theorem d_Mo_inEllipse_0 : decode c_yMo_inEllipse 0 = .ok (.ldc2_w 69, 3) := by decide +kernel
theorem d_Mo_inEllipse_3 : decode c_yMo_inEllipse 3 = .ok (.iload_n 1, 1) := by decide +kernel
theorem d_Mo_inEllipse_4 : decode c_yMo_inEllipse 4 = .ok (.aload_n 0, 1) := by decide +kernel
theorem d_Mo_inEllipse_5 : decode c_yMo_inEllipse 5 = .ok (.getfield 52, 3) := by decide +kernel
theorem d_Mo_inEllipse_8 : decode c_yMo_inEllipse 8 = .ok (.isub, 1) := by decide +kernel
theorem d_Mo_inEllipse_9 : decode c_yMo_inEllipse 9 = .ok (.i2l, 1) := by decide +kernel
theorem d_Mo_inEllipse_10 : decode c_yMo_inEllipse 10 = .ok (.lmul, 1) := by decide +kernel
theorem d_Mo_inEllipse_11 : decode c_yMo_inEllipse 11 = .ok (.aload_n 0, 1) := by decide +kernel
theorem d_Mo_inEllipse_12 : decode c_yMo_inEllipse 12 = .ok (.getfield 55, 3) := by decide +kernel
theorem d_Mo_inEllipse_15 : decode c_yMo_inEllipse 15 = .ok (.iconst 1, 1) := by decide +kernel
theorem d_Mo_inEllipse_16 : decode c_yMo_inEllipse 16 = .ok (.isub, 1) := by decide +kernel
theorem d_Mo_inEllipse_17 : decode c_yMo_inEllipse 17 = .ok (.i2l, 1) := by decide +kernel
theorem d_Mo_inEllipse_18 : decode c_yMo_inEllipse 18 = .ok (.lsub, 1) := by decide +kernel
theorem d_Mo_inEllipse_19 : decode c_yMo_inEllipse 19 = .ok (.lstore_n 3, 1) := by decide +kernel
theorem d_Mo_inEllipse_20 : decode c_yMo_inEllipse 20 = .ok (.ldc2_w 69, 3) := by decide +kernel
theorem d_Mo_inEllipse_23 : decode c_yMo_inEllipse 23 = .ok (.iload_n 2, 1) := by decide +kernel
theorem d_Mo_inEllipse_24 : decode c_yMo_inEllipse 24 = .ok (.aload_n 0, 1) := by decide +kernel
theorem d_Mo_inEllipse_25 : decode c_yMo_inEllipse 25 = .ok (.getfield 58, 3) := by decide +kernel
theorem d_Mo_inEllipse_28 : decode c_yMo_inEllipse 28 = .ok (.isub, 1) := by decide +kernel
theorem d_Mo_inEllipse_29 : decode c_yMo_inEllipse 29 = .ok (.i2l, 1) := by decide +kernel
theorem d_Mo_inEllipse_30 : decode c_yMo_inEllipse 30 = .ok (.lmul, 1) := by decide +kernel
theorem d_Mo_inEllipse_31 : decode c_yMo_inEllipse 31 = .ok (.aload_n 0, 1) := by decide +kernel
theorem d_Mo_inEllipse_32 : decode c_yMo_inEllipse 32 = .ok (.getfield 61, 3) := by decide +kernel
theorem d_Mo_inEllipse_35 : decode c_yMo_inEllipse 35 = .ok (.iconst 1, 1) := by decide +kernel
theorem d_Mo_inEllipse_36 : decode c_yMo_inEllipse 36 = .ok (.isub, 1) := by decide +kernel
theorem d_Mo_inEllipse_37 : decode c_yMo_inEllipse 37 = .ok (.i2l, 1) := by decide +kernel
theorem d_Mo_inEllipse_38 : decode c_yMo_inEllipse 38 = .ok (.lsub, 1) := by decide +kernel
theorem d_Mo_inEllipse_39 : decode c_yMo_inEllipse 39 = .ok (.lstore 5, 2) := by decide +kernel
theorem d_Mo_inEllipse_41 : decode c_yMo_inEllipse 41 = .ok (.aload_n 0, 1) := by decide +kernel
theorem d_Mo_inEllipse_42 : decode c_yMo_inEllipse 42 = .ok (.getfield 55, 3) := by decide +kernel
theorem d_Mo_inEllipse_45 : decode c_yMo_inEllipse 45 = .ok (.i2l, 1) := by decide +kernel
theorem d_Mo_inEllipse_46 : decode c_yMo_inEllipse 46 = .ok (.ldc2_w 69, 3) := by decide +kernel
theorem d_Mo_inEllipse_49 : decode c_yMo_inEllipse 49 = .ok (.aload_n 0, 1) := by decide +kernel
theorem d_Mo_inEllipse_50 : decode c_yMo_inEllipse 50 = .ok (.getfield 64, 3) := by decide +kernel
theorem d_Mo_inEllipse_53 : decode c_yMo_inEllipse 53 = .ok (.i2l, 1) := by decide +kernel
theorem d_Mo_inEllipse_54 : decode c_yMo_inEllipse 54 = .ok (.lmul, 1) := by decide +kernel
theorem d_Mo_inEllipse_55 : decode c_yMo_inEllipse 55 = .ok (.lsub, 1) := by decide +kernel
theorem d_Mo_inEllipse_56 : decode c_yMo_inEllipse 56 = .ok (.lstore 7, 2) := by decide +kernel
theorem d_Mo_inEllipse_58 : decode c_yMo_inEllipse 58 = .ok (.aload_n 0, 1) := by decide +kernel
theorem d_Mo_inEllipse_59 : decode c_yMo_inEllipse 59 = .ok (.getfield 61, 3) := by decide +kernel
theorem d_Mo_inEllipse_62 : decode c_yMo_inEllipse 62 = .ok (.i2l, 1) := by decide +kernel
theorem d_Mo_inEllipse_63 : decode c_yMo_inEllipse 63 = .ok (.ldc2_w 69, 3) := by decide +kernel
theorem d_Mo_inEllipse_66 : decode c_yMo_inEllipse 66 = .ok (.aload_n 0, 1) := by decide +kernel
theorem d_Mo_inEllipse_67 : decode c_yMo_inEllipse 67 = .ok (.getfield 64, 3) := by decide +kernel
theorem d_Mo_inEllipse_70 : decode c_yMo_inEllipse 70 = .ok (.i2l, 1) := by decide +kernel
theorem d_Mo_inEllipse_71 : decode c_yMo_inEllipse 71 = .ok (.lmul, 1) := by decide +kernel
theorem d_Mo_inEllipse_72 : decode c_yMo_inEllipse 72 = .ok (.lsub, 1) := by decide +kernel
theorem d_Mo_inEllipse_73 : decode c_yMo_inEllipse 73 = .ok (.lstore 9, 2) := by decide +kernel
theorem d_Mo_inEllipse_75 : decode c_yMo_inEllipse 75 = .ok (.lload_n 3, 1) := by decide +kernel
theorem d_Mo_inEllipse_76 : decode c_yMo_inEllipse 76 = .ok (.lload 5, 2) := by decide +kernel
theorem d_Mo_inEllipse_78 : decode c_yMo_inEllipse 78 = .ok (.aload_n 0, 1) := by decide +kernel
theorem d_Mo_inEllipse_79 : decode c_yMo_inEllipse 79 = .ok (.getfield 55, 3) := by decide +kernel
theorem d_Mo_inEllipse_82 : decode c_yMo_inEllipse 82 = .ok (.i2l, 1) := by decide +kernel
theorem d_Mo_inEllipse_83 : decode c_yMo_inEllipse 83 = .ok (.aload_n 0, 1) := by decide +kernel
theorem d_Mo_inEllipse_84 : decode c_yMo_inEllipse 84 = .ok (.getfield 61, 3) := by decide +kernel
theorem d_Mo_inEllipse_87 : decode c_yMo_inEllipse 87 = .ok (.i2l, 1) := by decide +kernel
theorem d_Mo_inEllipse_88 : decode c_yMo_inEllipse 88 = .ok (.invokestatic 71, 3) := by decide +kernel
theorem d_Mo_inEllipse_91 : decode c_yMo_inEllipse 91 = .ok (.ifCond .eq 34, 3) := by decide +kernel
theorem d_Mo_inEllipse_94 : decode c_yMo_inEllipse 94 = .ok (.lload 7, 2) := by decide +kernel
theorem d_Mo_inEllipse_96 : decode c_yMo_inEllipse 96 = .ok (.lconst 0, 1) := by decide +kernel
theorem d_Mo_inEllipse_97 : decode c_yMo_inEllipse 97 = .ok (.lcmp, 1) := by decide +kernel
theorem d_Mo_inEllipse_98 : decode c_yMo_inEllipse 98 = .ok (.ifCond .le 23, 3) := by decide +kernel
theorem d_Mo_inEllipse_101 : decode c_yMo_inEllipse 101 = .ok (.lload 9, 2) := by decide +kernel
theorem d_Mo_inEllipse_103 : decode c_yMo_inEllipse 103 = .ok (.lconst 0, 1) := by decide +kernel
theorem d_Mo_inEllipse_104 : decode c_yMo_inEllipse 104 = .ok (.lcmp, 1) := by decide +kernel
theorem d_Mo_inEllipse_105 : decode c_yMo_inEllipse 105 = .ok (.ifCond .le 16, 3) := by decide +kernel
theorem d_Mo_inEllipse_108 : decode c_yMo_inEllipse 108 = .ok (.lload_n 3, 1) := by decide +kernel
theorem d_Mo_inEllipse_109 : decode c_yMo_inEllipse 109 = .ok (.lload 5, 2) := by decide +kernel
theorem d_Mo_inEllipse_111 : decode c_yMo_inEllipse 111 = .ok (.lload 7, 2) := by decide +kernel
theorem d_Mo_inEllipse_113 : decode c_yMo_inEllipse 113 = .ok (.lload 9, 2) := by decide +kernel
theorem d_Mo_inEllipse_115 : decode c_yMo_inEllipse 115 = .ok (.invokestatic 71, 3) := by decide +kernel
theorem d_Mo_inEllipse_118 : decode c_yMo_inEllipse 118 = .ok (.ifCond .ne 7, 3) := by decide +kernel
theorem d_Mo_inEllipse_121 : decode c_yMo_inEllipse 121 = .ok (.iconst 1, 1) := by decide +kernel
theorem d_Mo_inEllipse_122 : decode c_yMo_inEllipse 122 = .ok (.goto 4, 3) := by decide +kernel
theorem d_Mo_inEllipse_125 : decode c_yMo_inEllipse 125 = .ok (.iconst 0, 1) := by decide +kernel
theorem d_Mo_inEllipse_126 : decode c_yMo_inEllipse 126 = .ok (.ireturn, 1) := by decide +kernel
set_option maxHeartbeats 4000000 in
set_option maxRecDepth 100000 in
theorem c_Model_inEllipse (l : Launch) (dC : Nat → ClassId) (dI : Nat → Nat → Nat) (hm zd zb zt zs zc zo : Nat) (tw w h mn n fx fy fa fb fc qr fo px py : Int) (px1 : 0 ≤ px) (px2 : px ≤ 1023) (py1 : 0 ≤ py) (py2 : py ≤ 1023) (fx1 : -4096 ≤ fx) (fx2 : fx ≤ 4096) (fy1 : -4096 ≤ fy) (fy2 : fy ≤ 4096) (fa1 : 1 ≤ fa) (fa2 : fa ≤ 2048) (fb1 : 1 ≤ fb) (fb2 : fb ≤ 2048) (fc1 : 1 ≤ fc) (fc2 : fc ≤ 200) : Met l y_Mo_inEllipse w_Mo_inEllipse ({ frames := 1, cells := 0, slots := 0, locals := 27 }) (va_Pc [.ref hm, .int (iZ px), .int (iZ py)] (zPr (dC, dI) vwCl [(hm, .inr (6, [.int (iZ tw), .int (iZ w), .int (iZ h), .int (iZ mn), .ref zd, .ref zb, .ref zt, .int (iZ n), .ref zs, .ref zc, .int (iZ fx), .int (iZ fy), .int (iZ fa), .int (iZ fb), .int (iZ fc), .int (iZ qr), .int (iZ fo), .ref zo]))] [])) (vp_Si (fun r => r = bI (elD fx fy fa fb fc px py))) 0 0 (fun _ => False) := by
  refine Met.ofW (cc := c_yMo_inEllipse) (maxL := 11) (ret := (some .boolean)) (by decide) rfl ?_
  intro p e s m args below meth c s₁ B hml hv
  obtain ⟨rfl, hP, hK⟩ := hv
  have hx := B.exec
  have hb := B.bytes
  have hr := B.returns
  have hts0 := atoms_spec (ws := w_Mo_inEllipse) B.pre
  have hts : ∀ w ∈ gT, w.before _ s = true := fun w h => hts0 w (List.mem_cons_of_mem _ h)
  have hown : s.vm.findClass R_Mo = some m.cls := findClass_of_methodNamed B.named
  have hlocks := B.notSynchronized
  have hl := lv_entry ([.ref hm, .int (iZ px), .int (iZ py)]) (n := 11) (Nat.le_of_ble_eq_true rfl)
  rw [lg_entry_eq]
  generalize (lg_sl ([.ref hm, .int (iZ px), .int (iZ py)]) ++ List.replicate (11 - (lg_sl ([.ref hm, .int (iZ px), .int (iZ py)])).length) Slot.unset).toArray = ls at hl ⊢
  have hl : lv_has ls 11 [(0, .ref hm), (1, .int (iZ px)), (2, .int (iZ py))] := hl
  refine lv_ldc2 (v := lZ (2)) hx hb hown (hts _ t_799) d_Mo_inEllipse_0 ?_
  refine lv_iload_n hx hb d_Mo_inEllipse_3 rfl (lv_at hl 1 rfl) ?_
  refine lv_aload_n hx hb d_Mo_inEllipse_4 rfl (lv_at hl 0 rfl) ?_
  refine va_get (D := (dC, dI)) (ci := 6) (v := .int (iZ fx)) (C := R_Mo) (T := T_Mo) (N := 18) hx hb hts wi_Mo hown hK hP 0 rfl rfl 10 (by decide) (hts _ t_694) (fun _ h9 => h9) rfl d_Mo_inEllipse_5 ?_
  refine zi_sub hx hb d_Mo_inEllipse_8 ?_
  refine zi_l hx hb d_Mo_inEllipse_9 (by omega) (by omega) ?_
  refine zl_mul hx hb d_Mo_inEllipse_10 ?_
  refine lv_aload_n hx hb d_Mo_inEllipse_11 rfl (lv_at hl 0 rfl) ?_
  refine va_get (D := (dC, dI)) (ci := 6) (v := .int (iZ fa)) (C := R_Mo) (T := T_Mo) (N := 18) hx hb hts wi_Mo hown hK hP 0 rfl rfl 12 (by decide) (hts _ t_696) (fun _ h9 => h9) rfl d_Mo_inEllipse_12 ?_
  refine lv_iconst (v := iZ (1)) hx hb d_Mo_inEllipse_15 rfl ?_
  refine zi_sub hx hb d_Mo_inEllipse_16 ?_
  refine zi_l hx hb d_Mo_inEllipse_17 (by omega) (by omega) ?_
  refine zl_sub hx hb d_Mo_inEllipse_18 ?_
  refine zn_Z (fun u e_u => ?_)
  refine lv_lstore_n (lv' := [(3, .long (lZ u)), (0, .ref hm), (1, .int (iZ px)), (2, .int (iZ py))]) hx hb d_Mo_inEllipse_19 rfl hl (by decide) rfl (fun ls hl => ?_)
  refine lv_ldc2 (v := lZ (2)) hx hb hown (hts _ t_799) d_Mo_inEllipse_20 ?_
  refine lv_iload_n hx hb d_Mo_inEllipse_23 rfl (lv_at hl 3 rfl) ?_
  refine lv_aload_n hx hb d_Mo_inEllipse_24 rfl (lv_at hl 1 rfl) ?_
  refine va_get (D := (dC, dI)) (ci := 6) (v := .int (iZ fy)) (C := R_Mo) (T := T_Mo) (N := 18) hx hb hts wi_Mo hown hK hP 0 rfl rfl 11 (by decide) (hts _ t_695) (fun _ h9 => h9) rfl d_Mo_inEllipse_25 ?_
  refine zi_sub hx hb d_Mo_inEllipse_28 ?_
  refine zi_l hx hb d_Mo_inEllipse_29 (by omega) (by omega) ?_
  refine zl_mul hx hb d_Mo_inEllipse_30 ?_
  refine lv_aload_n hx hb d_Mo_inEllipse_31 rfl (lv_at hl 1 rfl) ?_
  refine va_get (D := (dC, dI)) (ci := 6) (v := .int (iZ fb)) (C := R_Mo) (T := T_Mo) (N := 18) hx hb hts wi_Mo hown hK hP 0 rfl rfl 13 (by decide) (hts _ t_697) (fun _ h9 => h9) rfl d_Mo_inEllipse_32 ?_
  refine lv_iconst (v := iZ (1)) hx hb d_Mo_inEllipse_35 rfl ?_
  refine zi_sub hx hb d_Mo_inEllipse_36 ?_
  refine zi_l hx hb d_Mo_inEllipse_37 (by omega) (by omega) ?_
  refine zl_sub hx hb d_Mo_inEllipse_38 ?_
  refine zn_Z (fun v e_v => ?_)
  refine lv_lstore (lv' := [(5, .long (lZ v)), (3, .long (lZ u)), (0, .ref hm), (1, .int (iZ px)), (2, .int (iZ py))]) hx hb d_Mo_inEllipse_39 hl (by decide) rfl (fun ls hl => ?_)
  refine lv_aload_n hx hb d_Mo_inEllipse_41 rfl (lv_at hl 2 rfl) ?_
  refine va_get (D := (dC, dI)) (ci := 6) (v := .int (iZ fa)) (C := R_Mo) (T := T_Mo) (N := 18) hx hb hts wi_Mo hown hK hP 0 rfl rfl 12 (by decide) (hts _ t_696) (fun _ h9 => h9) rfl d_Mo_inEllipse_42 ?_
  refine zi_l hx hb d_Mo_inEllipse_45 (by omega) (by omega) ?_
  refine lv_ldc2 (v := lZ (2)) hx hb hown (hts _ t_799) d_Mo_inEllipse_46 ?_
  refine lv_aload_n hx hb d_Mo_inEllipse_49 rfl (lv_at hl 2 rfl) ?_
  refine va_get (D := (dC, dI)) (ci := 6) (v := .int (iZ fc)) (C := R_Mo) (T := T_Mo) (N := 18) hx hb hts wi_Mo hown hK hP 0 rfl rfl 14 (by decide) (hts _ t_698) (fun _ h9 => h9) rfl d_Mo_inEllipse_50 ?_
  refine zi_l hx hb d_Mo_inEllipse_53 (by omega) (by omega) ?_
  refine zl_mul hx hb d_Mo_inEllipse_54 ?_
  refine zl_sub hx hb d_Mo_inEllipse_55 ?_
  refine zn_Z (fun iw e_iw => ?_)
  refine lv_lstore (lv' := [(7, .long (lZ iw)), (5, .long (lZ v)), (3, .long (lZ u)), (0, .ref hm), (1, .int (iZ px)), (2, .int (iZ py))]) hx hb d_Mo_inEllipse_56 hl (by decide) rfl (fun ls hl => ?_)
  refine lv_aload_n hx hb d_Mo_inEllipse_58 rfl (lv_at hl 3 rfl) ?_
  refine va_get (D := (dC, dI)) (ci := 6) (v := .int (iZ fb)) (C := R_Mo) (T := T_Mo) (N := 18) hx hb hts wi_Mo hown hK hP 0 rfl rfl 13 (by decide) (hts _ t_697) (fun _ h9 => h9) rfl d_Mo_inEllipse_59 ?_
  refine zi_l hx hb d_Mo_inEllipse_62 (by omega) (by omega) ?_
  refine lv_ldc2 (v := lZ (2)) hx hb hown (hts _ t_799) d_Mo_inEllipse_63 ?_
  refine lv_aload_n hx hb d_Mo_inEllipse_66 rfl (lv_at hl 3 rfl) ?_
  refine va_get (D := (dC, dI)) (ci := 6) (v := .int (iZ fc)) (C := R_Mo) (T := T_Mo) (N := 18) hx hb hts wi_Mo hown hK hP 0 rfl rfl 14 (by decide) (hts _ t_698) (fun _ h9 => h9) rfl d_Mo_inEllipse_67 ?_
  refine zi_l hx hb d_Mo_inEllipse_70 (by omega) (by omega) ?_
  refine zl_mul hx hb d_Mo_inEllipse_71 ?_
  refine zl_sub hx hb d_Mo_inEllipse_72 ?_
  refine zn_Z (fun ih e_ih => ?_)
  refine lv_lstore (lv' := [(9, .long (lZ ih)), (7, .long (lZ iw)), (5, .long (lZ v)), (3, .long (lZ u)), (0, .ref hm), (1, .int (iZ px)), (2, .int (iZ py))]) hx hb d_Mo_inEllipse_73 hl (by decide) rfl (fun ls hl => ?_)
  refine lv_lload_n hx hb d_Mo_inEllipse_75 rfl (lv_at hl 3 rfl) ?_
  refine lv_lload hx hb d_Mo_inEllipse_76 (lv_at hl 2 rfl) ?_
  refine lv_aload_n hx hb d_Mo_inEllipse_78 rfl (lv_at hl 4 rfl) ?_
  refine va_get (D := (dC, dI)) (ci := 6) (v := .int (iZ fa)) (C := R_Mo) (T := T_Mo) (N := 18) hx hb hts wi_Mo hown hK hP 0 rfl rfl 12 (by decide) (hts _ t_696) (fun _ h9 => h9) rfl d_Mo_inEllipse_79 ?_
  refine zi_l hx hb d_Mo_inEllipse_82 (by omega) (by omega) ?_
  refine lv_aload_n hx hb d_Mo_inEllipse_83 rfl (lv_at hl 4 rfl) ?_
  refine va_get (D := (dC, dI)) (ci := 6) (v := .int (iZ fb)) (C := R_Mo) (T := T_Mo) (N := 18) hx hb hts wi_Mo hown hK hP 0 rfl rfl 13 (by decide) (hts _ t_697) (fun _ h9 => h9) rfl d_Mo_inEllipse_84 ?_
  refine zi_l hx hb d_Mo_inEllipse_87 (by omega) (by omega) ?_
  refine vp_callSi (va_runS (As := [.long (lZ u), .long (lZ v), .long (lZ fa), .long (lZ fb)]) (rest := []) ⟨hx, hb, hml, hown, hts⟩ (c_Model_inOval l dC dI u v fa fb (by first | omega | assumption) (by first | omega | assumption) (by first | omega | assumption) (by first | omega | assumption) (by first | omega | assumption) (by first | omega | assumption) (by first | omega | assumption) (by first | omega | assumption)) (va_cwS 4 hts (gS t_800 t_801 t_6 t_802) rfl rfl rfl (by decide +kernel) ⟨Nat.le_of_ble_eq_true rfl, Nat.le_of_ble_eq_true rfl⟩) ⟨zPr_blind, zPr_pre hP hK [] [] rfl rfl⟩ rfl rfl hl.1 rfl (lv_room (Nat.le_of_ble_eq_true rfl)) d_Mo_inEllipse_88 ⟨Nat.le_of_ble_eq_true rfl, Nat.le_of_ble_eq_true rfl⟩).run (fun r_88 q_88 => ?_)
  obtain rfl := q_88
  refine zb_if_eq (tgt := 125) hx hb d_Mo_inEllipse_91 (by decide) (fun c_91 => ?_) (fun c_91 => ?_)
  · refine lv_iconst (v := iZ (0)) hx hb d_Mo_inEllipse_125 rfl ?_
    exact W.zret (ty := .boolean) hx hb hr (by decide) (fun t ht hW => ⟨_, rfl, by rw [elD_f (fun z9 => ovD_n c_91 (by rw [e_u, e_v]; exact z9.1))]; rfl, ht⟩) (fun q h => nomatch h) d_Mo_inEllipse_126
  · refine lv_lload hx hb d_Mo_inEllipse_94 (lv_at hl 1 rfl) ?_
    refine lv_lconst (v := lZ 0) hx hb d_Mo_inEllipse_96 (by decide) ?_
    refine zl_le (tgt := 121) hx hb d_Mo_inEllipse_97 d_Mo_inEllipse_98 (by decide) (by omega) (by omega) (by omega) (by omega) (fun c_97 => ?_) (fun c_97 => ?_)
    · refine lv_iconst (v := iZ (1)) hx hb d_Mo_inEllipse_121 rfl ?_
      refine lv_goto (tgt := 126) hx hb d_Mo_inEllipse_122 (by decide) ?_
      exact W.zret (ty := .boolean) hx hb hr (by decide) (fun t ht hW => ⟨_, rfl, by rw [elD_t ⟨by rw [← e_u, ← e_v]; exact ovD_i c_91, fun z9 => by omega⟩]; rfl, ht⟩) (fun q h => nomatch h) d_Mo_inEllipse_126
    · refine lv_lload hx hb d_Mo_inEllipse_101 (lv_at hl 0 rfl) ?_
      refine lv_lconst (v := lZ 0) hx hb d_Mo_inEllipse_103 (by decide) ?_
      refine zl_le (tgt := 121) hx hb d_Mo_inEllipse_104 d_Mo_inEllipse_105 (by decide) (by omega) (by omega) (by omega) (by omega) (fun c_104 => ?_) (fun c_104 => ?_)
      · refine lv_iconst (v := iZ (1)) hx hb d_Mo_inEllipse_121 rfl ?_
        refine lv_goto (tgt := 126) hx hb d_Mo_inEllipse_122 (by decide) ?_
        exact W.zret (ty := .boolean) hx hb hr (by decide) (fun t ht hW => ⟨_, rfl, by rw [elD_t ⟨by rw [← e_u, ← e_v]; exact ovD_i c_91, fun z9 => by omega⟩]; rfl, ht⟩) (fun q h => nomatch h) d_Mo_inEllipse_126
      · refine lv_lload_n hx hb d_Mo_inEllipse_108 rfl (lv_at hl 3 rfl) ?_
        refine lv_lload hx hb d_Mo_inEllipse_109 (lv_at hl 2 rfl) ?_
        refine lv_lload hx hb d_Mo_inEllipse_111 (lv_at hl 1 rfl) ?_
        refine lv_lload hx hb d_Mo_inEllipse_113 (lv_at hl 0 rfl) ?_
        refine vp_callSi (va_runS (As := [.long (lZ u), .long (lZ v), .long (lZ iw), .long (lZ ih)]) (rest := []) ⟨hx, hb, hml, hown, hts⟩ (c_Model_inOval l dC dI u v iw ih (by first | omega | assumption) (by first | omega | assumption) (by first | omega | assumption) (by first | omega | assumption) (by first | omega | assumption) (by first | omega | assumption) (by first | omega | assumption) (by first | omega | assumption)) (va_cwS 4 hts (gS t_800 t_801 t_6 t_802) rfl rfl rfl (by decide +kernel) ⟨Nat.le_of_ble_eq_true rfl, Nat.le_of_ble_eq_true rfl⟩) ⟨zPr_blind, zPr_pre hP hK [] [] rfl rfl⟩ rfl rfl hl.1 rfl (lv_room (Nat.le_of_ble_eq_true rfl)) d_Mo_inEllipse_115 ⟨Nat.le_of_ble_eq_true rfl, Nat.le_of_ble_eq_true rfl⟩).run (fun r_115 q_115 => ?_)
        obtain rfl := q_115
        refine zb_if_ne (tgt := 125) hx hb d_Mo_inEllipse_118 (by decide) (fun c_118 => ?_) (fun c_118 => ?_)
        · refine lv_iconst (v := iZ (0)) hx hb d_Mo_inEllipse_125 rfl ?_
          exact W.zret (ty := .boolean) hx hb hr (by decide) (fun t ht hW => ⟨_, rfl, by rw [elD_f (fun z9 => z9.2 ⟨by omega, by omega, by rw [← e_u, ← e_v, ← e_iw, ← e_ih]; exact ovD_i c_118⟩)]; rfl, ht⟩) (fun q h => nomatch h) d_Mo_inEllipse_126
        · refine lv_iconst (v := iZ (1)) hx hb d_Mo_inEllipse_121 rfl ?_
          refine lv_goto (tgt := 126) hx hb d_Mo_inEllipse_122 (by decide) ?_
          exact W.zret (ty := .boolean) hx hb hr (by decide) (fun t ht hW => ⟨_, rfl, by rw [elD_t ⟨by rw [← e_u, ← e_v]; exact ovD_i c_91, fun z9 => ovD_n c_118 (by rw [e_u, e_v, e_iw, e_ih]; exact z9.2.2)⟩]; rfl, ht⟩) (fun q h => nomatch h) d_Mo_inEllipse_126
theorem d_Mo_along_0 : decode c_yMo_along 0 = .ok (.aload_n 0, 1) := by decide +kernel
theorem d_Mo_along_1 : decode c_yMo_along 1 = .ok (.getfield 75, 3) := by decide +kernel
theorem d_Mo_along_4 : decode c_yMo_along 4 = .ok (.ifCond .ne 12, 3) := by decide +kernel
theorem d_Mo_along_7 : decode c_yMo_along 7 = .ok (.iload_n 1, 1) := by decide +kernel
theorem d_Mo_along_8 : decode c_yMo_along 8 = .ok (.aload_n 0, 1) := by decide +kernel
theorem d_Mo_along_9 : decode c_yMo_along 9 = .ok (.getfield 52, 3) := by decide +kernel
theorem d_Mo_along_12 : decode c_yMo_along 12 = .ok (.isub, 1) := by decide +kernel
theorem d_Mo_along_13 : decode c_yMo_along 13 = .ok (.goto 43, 3) := by decide +kernel
theorem d_Mo_along_16 : decode c_yMo_along 16 = .ok (.aload_n 0, 1) := by decide +kernel
theorem d_Mo_along_17 : decode c_yMo_along 17 = .ok (.getfield 75, 3) := by decide +kernel
theorem d_Mo_along_20 : decode c_yMo_along 20 = .ok (.iconst 1, 1) := by decide +kernel
theorem d_Mo_along_21 : decode c_yMo_along 21 = .ok (.if_icmp .ne 12, 3) := by decide +kernel
theorem d_Mo_along_24 : decode c_yMo_along 24 = .ok (.iload_n 2, 1) := by decide +kernel
theorem d_Mo_along_25 : decode c_yMo_along 25 = .ok (.aload_n 0, 1) := by decide +kernel
theorem d_Mo_along_26 : decode c_yMo_along 26 = .ok (.getfield 58, 3) := by decide +kernel
theorem d_Mo_along_29 : decode c_yMo_along 29 = .ok (.isub, 1) := by decide +kernel
theorem d_Mo_along_30 : decode c_yMo_along 30 = .ok (.goto 26, 3) := by decide +kernel
theorem d_Mo_along_33 : decode c_yMo_along 33 = .ok (.aload_n 0, 1) := by decide +kernel
theorem d_Mo_along_34 : decode c_yMo_along 34 = .ok (.getfield 75, 3) := by decide +kernel
theorem d_Mo_along_37 : decode c_yMo_along 37 = .ok (.iconst 2, 1) := by decide +kernel
theorem d_Mo_along_38 : decode c_yMo_along 38 = .ok (.if_icmp .ne 12, 3) := by decide +kernel
theorem d_Mo_along_41 : decode c_yMo_along 41 = .ok (.aload_n 0, 1) := by decide +kernel
theorem d_Mo_along_42 : decode c_yMo_along 42 = .ok (.getfield 52, 3) := by decide +kernel
theorem d_Mo_along_45 : decode c_yMo_along 45 = .ok (.iload_n 1, 1) := by decide +kernel
theorem d_Mo_along_46 : decode c_yMo_along 46 = .ok (.isub, 1) := by decide +kernel
theorem d_Mo_along_47 : decode c_yMo_along 47 = .ok (.goto 9, 3) := by decide +kernel
theorem d_Mo_along_50 : decode c_yMo_along 50 = .ok (.aload_n 0, 1) := by decide +kernel
theorem d_Mo_along_51 : decode c_yMo_along 51 = .ok (.getfield 58, 3) := by decide +kernel
theorem d_Mo_along_54 : decode c_yMo_along 54 = .ok (.iload_n 2, 1) := by decide +kernel
theorem d_Mo_along_55 : decode c_yMo_along 55 = .ok (.isub, 1) := by decide +kernel
theorem d_Mo_along_56 : decode c_yMo_along 56 = .ok (.ireturn, 1) := by decide +kernel
set_option maxHeartbeats 4000000 in
set_option maxRecDepth 100000 in
theorem c_Model_along (l : Launch) (dC : Nat → ClassId) (dI : Nat → Nat → Nat) (hm zd zb zt zs zc zo : Nat) (tw w h mn n fx fy fa fb fc qr fo px py : Int) (px1 : 0 ≤ px) (px2 : px ≤ 1023) (py1 : 0 ≤ py) (py2 : py ≤ 1023) (fx1 : -4096 ≤ fx) (fx2 : fx ≤ 4096) (fy1 : -4096 ≤ fy) (fy2 : fy ≤ 4096) (q1 : 0 ≤ qr) (q2 : qr ≤ 3) : Met l y_Mo_along w_Mo_along ({ frames := 0, cells := 0, slots := 0, locals := 0 }) (va_Pc [.ref hm, .int (iZ px), .int (iZ py)] (zPr (dC, dI) vwCl [(hm, .inr (6, [.int (iZ tw), .int (iZ w), .int (iZ h), .int (iZ mn), .ref zd, .ref zb, .ref zt, .int (iZ n), .ref zs, .ref zc, .int (iZ fx), .int (iZ fy), .int (iZ fa), .int (iZ fb), .int (iZ fc), .int (iZ qr), .int (iZ fo), .ref zo]))] [])) (vp_Si (fun r => r = iZ (alg qr fx fy px py))) 0 0 (fun _ => False) := by
  refine Met.ofW (cc := c_yMo_along) (maxL := 3) (ret := (some .int)) (by decide) rfl ?_
  intro p e s m args below meth c s₁ B hml hv
  obtain ⟨rfl, hP, hK⟩ := hv
  have hx := B.exec
  have hb := B.bytes
  have hr := B.returns
  have hts0 := atoms_spec (ws := w_Mo_along) B.pre
  have hts : ∀ w ∈ gT, w.before _ s = true := fun w h => hts0 w (List.mem_cons_of_mem _ h)
  have hown : s.vm.findClass R_Mo = some m.cls := findClass_of_methodNamed B.named
  have hlocks := B.notSynchronized
  have hl := lv_entry ([.ref hm, .int (iZ px), .int (iZ py)]) (n := 3) (Nat.le_of_ble_eq_true rfl)
  rw [lg_entry_eq]
  generalize (lg_sl ([.ref hm, .int (iZ px), .int (iZ py)]) ++ List.replicate (3 - (lg_sl ([.ref hm, .int (iZ px), .int (iZ py)])).length) Slot.unset).toArray = ls at hl ⊢
  have hl : lv_has ls 3 [(0, .ref hm), (1, .int (iZ px)), (2, .int (iZ py))] := hl
  refine lv_aload_n hx hb d_Mo_along_0 rfl (lv_at hl 0 rfl) ?_
  refine va_get (D := (dC, dI)) (ci := 6) (v := .int (iZ qr)) (C := R_Mo) (T := T_Mo) (N := 18) hx hb hts wi_Mo hown hK hP 0 rfl rfl 15 (by decide) (hts _ t_699) (fun _ h9 => h9) rfl d_Mo_along_1 ?_
  refine zi_if_ne (tgt := 16) hx hb d_Mo_along_4 (by decide) (by omega) (by omega) (fun c_4 => ?_) (fun c_4 => ?_)
  · refine lv_aload_n hx hb d_Mo_along_16 rfl (lv_at hl 0 rfl) ?_
    refine va_get (D := (dC, dI)) (ci := 6) (v := .int (iZ qr)) (C := R_Mo) (T := T_Mo) (N := 18) hx hb hts wi_Mo hown hK hP 0 rfl rfl 15 (by decide) (hts _ t_699) (fun _ h9 => h9) rfl d_Mo_along_17 ?_
    refine lv_iconst (v := iZ (1)) hx hb d_Mo_along_20 rfl ?_
    refine zi_ne (tgt := 33) hx hb d_Mo_along_21 (by decide) (by omega) (by omega) (by omega) (by omega) (fun c_21 => ?_) (fun c_21 => ?_)
    · refine lv_aload_n hx hb d_Mo_along_33 rfl (lv_at hl 0 rfl) ?_
      refine va_get (D := (dC, dI)) (ci := 6) (v := .int (iZ qr)) (C := R_Mo) (T := T_Mo) (N := 18) hx hb hts wi_Mo hown hK hP 0 rfl rfl 15 (by decide) (hts _ t_699) (fun _ h9 => h9) rfl d_Mo_along_34 ?_
      refine lv_iconst (v := iZ (2)) hx hb d_Mo_along_37 rfl ?_
      refine zi_ne (tgt := 50) hx hb d_Mo_along_38 (by decide) (by omega) (by omega) (by omega) (by omega) (fun c_38 => ?_) (fun c_38 => ?_)
      · refine lv_aload_n hx hb d_Mo_along_50 rfl (lv_at hl 0 rfl) ?_
        refine va_get (D := (dC, dI)) (ci := 6) (v := .int (iZ fy)) (C := R_Mo) (T := T_Mo) (N := 18) hx hb hts wi_Mo hown hK hP 0 rfl rfl 11 (by decide) (hts _ t_695) (fun _ h9 => h9) rfl d_Mo_along_51 ?_
        refine lv_iload_n hx hb d_Mo_along_54 rfl (lv_at hl 2 rfl) ?_
        refine zi_sub hx hb d_Mo_along_55 ?_
        exact W.iret hx hb hr (fun t ht hW => ⟨_, rfl, congrArg iZ (by unfold alg; omega), ht⟩) (fun q h => nomatch h) d_Mo_along_56
      · refine lv_aload_n hx hb d_Mo_along_41 rfl (lv_at hl 0 rfl) ?_
        refine va_get (D := (dC, dI)) (ci := 6) (v := .int (iZ fx)) (C := R_Mo) (T := T_Mo) (N := 18) hx hb hts wi_Mo hown hK hP 0 rfl rfl 10 (by decide) (hts _ t_694) (fun _ h9 => h9) rfl d_Mo_along_42 ?_
        refine lv_iload_n hx hb d_Mo_along_45 rfl (lv_at hl 1 rfl) ?_
        refine zi_sub hx hb d_Mo_along_46 ?_
        refine lv_goto (tgt := 56) hx hb d_Mo_along_47 (by decide) ?_
        exact W.iret hx hb hr (fun t ht hW => ⟨_, rfl, congrArg iZ (by unfold alg; omega), ht⟩) (fun q h => nomatch h) d_Mo_along_56
    · refine lv_iload_n hx hb d_Mo_along_24 rfl (lv_at hl 2 rfl) ?_
      refine lv_aload_n hx hb d_Mo_along_25 rfl (lv_at hl 0 rfl) ?_
      refine va_get (D := (dC, dI)) (ci := 6) (v := .int (iZ fy)) (C := R_Mo) (T := T_Mo) (N := 18) hx hb hts wi_Mo hown hK hP 0 rfl rfl 11 (by decide) (hts _ t_695) (fun _ h9 => h9) rfl d_Mo_along_26 ?_
      refine zi_sub hx hb d_Mo_along_29 ?_
      refine lv_goto (tgt := 56) hx hb d_Mo_along_30 (by decide) ?_
      exact W.iret hx hb hr (fun t ht hW => ⟨_, rfl, congrArg iZ (by unfold alg; omega), ht⟩) (fun q h => nomatch h) d_Mo_along_56
  · refine lv_iload_n hx hb d_Mo_along_7 rfl (lv_at hl 1 rfl) ?_
    refine lv_aload_n hx hb d_Mo_along_8 rfl (lv_at hl 0 rfl) ?_
    refine va_get (D := (dC, dI)) (ci := 6) (v := .int (iZ fx)) (C := R_Mo) (T := T_Mo) (N := 18) hx hb hts wi_Mo hown hK hP 0 rfl rfl 10 (by decide) (hts _ t_694) (fun _ h9 => h9) rfl d_Mo_along_9 ?_
    refine zi_sub hx hb d_Mo_along_12 ?_
    refine lv_goto (tgt := 56) hx hb d_Mo_along_13 (by decide) ?_
    exact W.iret hx hb hr (fun t ht hW => ⟨_, rfl, congrArg iZ (by unfold alg; omega), ht⟩) (fun q h => nomatch h) d_Mo_along_56
theorem d_Mo_across_0 : decode c_yMo_across 0 = .ok (.aload_n 0, 1) := by decide +kernel
theorem d_Mo_across_1 : decode c_yMo_across 1 = .ok (.getfield 75, 3) := by decide +kernel
theorem d_Mo_across_4 : decode c_yMo_across 4 = .ok (.ifCond .ne 12, 3) := by decide +kernel
theorem d_Mo_across_7 : decode c_yMo_across 7 = .ok (.iload_n 2, 1) := by decide +kernel
theorem d_Mo_across_8 : decode c_yMo_across 8 = .ok (.aload_n 0, 1) := by decide +kernel
theorem d_Mo_across_9 : decode c_yMo_across 9 = .ok (.getfield 58, 3) := by decide +kernel
theorem d_Mo_across_12 : decode c_yMo_across 12 = .ok (.isub, 1) := by decide +kernel
theorem d_Mo_across_13 : decode c_yMo_across 13 = .ok (.goto 43, 3) := by decide +kernel
theorem d_Mo_across_16 : decode c_yMo_across 16 = .ok (.aload_n 0, 1) := by decide +kernel
theorem d_Mo_across_17 : decode c_yMo_across 17 = .ok (.getfield 75, 3) := by decide +kernel
theorem d_Mo_across_20 : decode c_yMo_across 20 = .ok (.iconst 1, 1) := by decide +kernel
theorem d_Mo_across_21 : decode c_yMo_across 21 = .ok (.if_icmp .ne 12, 3) := by decide +kernel
theorem d_Mo_across_24 : decode c_yMo_across 24 = .ok (.aload_n 0, 1) := by decide +kernel
theorem d_Mo_across_25 : decode c_yMo_across 25 = .ok (.getfield 52, 3) := by decide +kernel
theorem d_Mo_across_28 : decode c_yMo_across 28 = .ok (.iload_n 1, 1) := by decide +kernel
theorem d_Mo_across_29 : decode c_yMo_across 29 = .ok (.isub, 1) := by decide +kernel
theorem d_Mo_across_30 : decode c_yMo_across 30 = .ok (.goto 26, 3) := by decide +kernel
theorem d_Mo_across_33 : decode c_yMo_across 33 = .ok (.aload_n 0, 1) := by decide +kernel
theorem d_Mo_across_34 : decode c_yMo_across 34 = .ok (.getfield 75, 3) := by decide +kernel
theorem d_Mo_across_37 : decode c_yMo_across 37 = .ok (.iconst 2, 1) := by decide +kernel
theorem d_Mo_across_38 : decode c_yMo_across 38 = .ok (.if_icmp .ne 12, 3) := by decide +kernel
theorem d_Mo_across_41 : decode c_yMo_across 41 = .ok (.aload_n 0, 1) := by decide +kernel
theorem d_Mo_across_42 : decode c_yMo_across 42 = .ok (.getfield 58, 3) := by decide +kernel
theorem d_Mo_across_45 : decode c_yMo_across 45 = .ok (.iload_n 2, 1) := by decide +kernel
theorem d_Mo_across_46 : decode c_yMo_across 46 = .ok (.isub, 1) := by decide +kernel
theorem d_Mo_across_47 : decode c_yMo_across 47 = .ok (.goto 9, 3) := by decide +kernel
theorem d_Mo_across_50 : decode c_yMo_across 50 = .ok (.iload_n 1, 1) := by decide +kernel
theorem d_Mo_across_51 : decode c_yMo_across 51 = .ok (.aload_n 0, 1) := by decide +kernel
theorem d_Mo_across_52 : decode c_yMo_across 52 = .ok (.getfield 52, 3) := by decide +kernel
theorem d_Mo_across_55 : decode c_yMo_across 55 = .ok (.isub, 1) := by decide +kernel
theorem d_Mo_across_56 : decode c_yMo_across 56 = .ok (.ireturn, 1) := by decide +kernel
set_option maxHeartbeats 4000000 in
set_option maxRecDepth 100000 in
theorem c_Model_across (l : Launch) (dC : Nat → ClassId) (dI : Nat → Nat → Nat) (hm zd zb zt zs zc zo : Nat) (tw w h mn n fx fy fa fb fc qr fo px py : Int) (px1 : 0 ≤ px) (px2 : px ≤ 1023) (py1 : 0 ≤ py) (py2 : py ≤ 1023) (fx1 : -4096 ≤ fx) (fx2 : fx ≤ 4096) (fy1 : -4096 ≤ fy) (fy2 : fy ≤ 4096) (q1 : 0 ≤ qr) (q2 : qr ≤ 3) : Met l y_Mo_across w_Mo_across ({ frames := 0, cells := 0, slots := 0, locals := 0 }) (va_Pc [.ref hm, .int (iZ px), .int (iZ py)] (zPr (dC, dI) vwCl [(hm, .inr (6, [.int (iZ tw), .int (iZ w), .int (iZ h), .int (iZ mn), .ref zd, .ref zb, .ref zt, .int (iZ n), .ref zs, .ref zc, .int (iZ fx), .int (iZ fy), .int (iZ fa), .int (iZ fb), .int (iZ fc), .int (iZ qr), .int (iZ fo), .ref zo]))] [])) (vp_Si (fun r => r = iZ (acr qr fx fy px py))) 0 0 (fun _ => False) := by
  refine Met.ofW (cc := c_yMo_across) (maxL := 3) (ret := (some .int)) (by decide) rfl ?_
  intro p e s m args below meth c s₁ B hml hv
  obtain ⟨rfl, hP, hK⟩ := hv
  have hx := B.exec
  have hb := B.bytes
  have hr := B.returns
  have hts0 := atoms_spec (ws := w_Mo_across) B.pre
  have hts : ∀ w ∈ gT, w.before _ s = true := fun w h => hts0 w (List.mem_cons_of_mem _ h)
  have hown : s.vm.findClass R_Mo = some m.cls := findClass_of_methodNamed B.named
  have hlocks := B.notSynchronized
  have hl := lv_entry ([.ref hm, .int (iZ px), .int (iZ py)]) (n := 3) (Nat.le_of_ble_eq_true rfl)
  rw [lg_entry_eq]
  generalize (lg_sl ([.ref hm, .int (iZ px), .int (iZ py)]) ++ List.replicate (3 - (lg_sl ([.ref hm, .int (iZ px), .int (iZ py)])).length) Slot.unset).toArray = ls at hl ⊢
  have hl : lv_has ls 3 [(0, .ref hm), (1, .int (iZ px)), (2, .int (iZ py))] := hl
  refine lv_aload_n hx hb d_Mo_across_0 rfl (lv_at hl 0 rfl) ?_
  refine va_get (D := (dC, dI)) (ci := 6) (v := .int (iZ qr)) (C := R_Mo) (T := T_Mo) (N := 18) hx hb hts wi_Mo hown hK hP 0 rfl rfl 15 (by decide) (hts _ t_699) (fun _ h9 => h9) rfl d_Mo_across_1 ?_
  refine zi_if_ne (tgt := 16) hx hb d_Mo_across_4 (by decide) (by omega) (by omega) (fun c_4 => ?_) (fun c_4 => ?_)
  · refine lv_aload_n hx hb d_Mo_across_16 rfl (lv_at hl 0 rfl) ?_
    refine va_get (D := (dC, dI)) (ci := 6) (v := .int (iZ qr)) (C := R_Mo) (T := T_Mo) (N := 18) hx hb hts wi_Mo hown hK hP 0 rfl rfl 15 (by decide) (hts _ t_699) (fun _ h9 => h9) rfl d_Mo_across_17 ?_
    refine lv_iconst (v := iZ (1)) hx hb d_Mo_across_20 rfl ?_
    refine zi_ne (tgt := 33) hx hb d_Mo_across_21 (by decide) (by omega) (by omega) (by omega) (by omega) (fun c_21 => ?_) (fun c_21 => ?_)
    · refine lv_aload_n hx hb d_Mo_across_33 rfl (lv_at hl 0 rfl) ?_
      refine va_get (D := (dC, dI)) (ci := 6) (v := .int (iZ qr)) (C := R_Mo) (T := T_Mo) (N := 18) hx hb hts wi_Mo hown hK hP 0 rfl rfl 15 (by decide) (hts _ t_699) (fun _ h9 => h9) rfl d_Mo_across_34 ?_
      refine lv_iconst (v := iZ (2)) hx hb d_Mo_across_37 rfl ?_
      refine zi_ne (tgt := 50) hx hb d_Mo_across_38 (by decide) (by omega) (by omega) (by omega) (by omega) (fun c_38 => ?_) (fun c_38 => ?_)
      · refine lv_iload_n hx hb d_Mo_across_50 rfl (lv_at hl 1 rfl) ?_
        refine lv_aload_n hx hb d_Mo_across_51 rfl (lv_at hl 0 rfl) ?_
        refine va_get (D := (dC, dI)) (ci := 6) (v := .int (iZ fx)) (C := R_Mo) (T := T_Mo) (N := 18) hx hb hts wi_Mo hown hK hP 0 rfl rfl 10 (by decide) (hts _ t_694) (fun _ h9 => h9) rfl d_Mo_across_52 ?_
        refine zi_sub hx hb d_Mo_across_55 ?_
        exact W.iret hx hb hr (fun t ht hW => ⟨_, rfl, congrArg iZ (by unfold acr; omega), ht⟩) (fun q h => nomatch h) d_Mo_across_56
      · refine lv_aload_n hx hb d_Mo_across_41 rfl (lv_at hl 0 rfl) ?_
        refine va_get (D := (dC, dI)) (ci := 6) (v := .int (iZ fy)) (C := R_Mo) (T := T_Mo) (N := 18) hx hb hts wi_Mo hown hK hP 0 rfl rfl 11 (by decide) (hts _ t_695) (fun _ h9 => h9) rfl d_Mo_across_42 ?_
        refine lv_iload_n hx hb d_Mo_across_45 rfl (lv_at hl 2 rfl) ?_
        refine zi_sub hx hb d_Mo_across_46 ?_
        refine lv_goto (tgt := 56) hx hb d_Mo_across_47 (by decide) ?_
        exact W.iret hx hb hr (fun t ht hW => ⟨_, rfl, congrArg iZ (by unfold acr; omega), ht⟩) (fun q h => nomatch h) d_Mo_across_56
    · refine lv_aload_n hx hb d_Mo_across_24 rfl (lv_at hl 0 rfl) ?_
      refine va_get (D := (dC, dI)) (ci := 6) (v := .int (iZ fx)) (C := R_Mo) (T := T_Mo) (N := 18) hx hb hts wi_Mo hown hK hP 0 rfl rfl 10 (by decide) (hts _ t_694) (fun _ h9 => h9) rfl d_Mo_across_25 ?_
      refine lv_iload_n hx hb d_Mo_across_28 rfl (lv_at hl 1 rfl) ?_
      refine zi_sub hx hb d_Mo_across_29 ?_
      refine lv_goto (tgt := 56) hx hb d_Mo_across_30 (by decide) ?_
      exact W.iret hx hb hr (fun t ht hW => ⟨_, rfl, congrArg iZ (by unfold acr; omega), ht⟩) (fun q h => nomatch h) d_Mo_across_56
  · refine lv_iload_n hx hb d_Mo_across_7 rfl (lv_at hl 2 rfl) ?_
    refine lv_aload_n hx hb d_Mo_across_8 rfl (lv_at hl 0 rfl) ?_
    refine va_get (D := (dC, dI)) (ci := 6) (v := .int (iZ fy)) (C := R_Mo) (T := T_Mo) (N := 18) hx hb hts wi_Mo hown hK hP 0 rfl rfl 11 (by decide) (hts _ t_695) (fun _ h9 => h9) rfl d_Mo_across_9 ?_
    refine zi_sub hx hb d_Mo_across_12 ?_
    refine lv_goto (tgt := 56) hx hb d_Mo_across_13 (by decide) ?_
    exact W.iret hx hb hr (fun t ht hW => ⟨_, rfl, congrArg iZ (by unfold acr; omega), ht⟩) (fun q h => nomatch h) d_Mo_across_56
theorem d_Mo_inText_0 : decode c_yMo_inText 0 = .ok (.aload_n 0, 1) := by decide +kernel
theorem d_Mo_inText_1 : decode c_yMo_inText 1 = .ok (.getfield 27, 3) := by decide +kernel
theorem d_Mo_inText_4 : decode c_yMo_inText 4 = .ok (.iconst 3, 1) := by decide +kernel
theorem d_Mo_inText_5 : decode c_yMo_inText 5 = .ok (.aload_n 0, 1) := by decide +kernel
theorem d_Mo_inText_6 : decode c_yMo_inText 6 = .ok (.getfield 78, 3) := by decide +kernel
theorem d_Mo_inText_9 : decode c_yMo_inText 9 = .ok (.imul, 1) := by decide +kernel
theorem d_Mo_inText_10 : decode c_yMo_inText 10 = .ok (.iaload, 1) := by decide +kernel
theorem d_Mo_inText_11 : decode c_yMo_inText 11 = .ok (.istore_n 3, 1) := by decide +kernel
theorem d_Mo_inText_12 : decode c_yMo_inText 12 = .ok (.iload_n 1, 1) := by decide +kernel
theorem d_Mo_inText_13 : decode c_yMo_inText 13 = .ok (.aload_n 0, 1) := by decide +kernel
theorem d_Mo_inText_14 : decode c_yMo_inText 14 = .ok (.getfield 55, 3) := by decide +kernel
theorem d_Mo_inText_17 : decode c_yMo_inText 17 = .ok (.idiv, 1) := by decide +kernel
theorem d_Mo_inText_18 : decode c_yMo_inText 18 = .ok (.istore 4, 2) := by decide +kernel
theorem d_Mo_inText_20 : decode c_yMo_inText 20 = .ok (.iload_n 2, 1) := by decide +kernel
theorem d_Mo_inText_21 : decode c_yMo_inText 21 = .ok (.aload_n 0, 1) := by decide +kernel
theorem d_Mo_inText_22 : decode c_yMo_inText 22 = .ok (.getfield 61, 3) := by decide +kernel
theorem d_Mo_inText_25 : decode c_yMo_inText 25 = .ok (.idiv, 1) := by decide +kernel
theorem d_Mo_inText_26 : decode c_yMo_inText 26 = .ok (.istore 5, 2) := by decide +kernel
theorem d_Mo_inText_28 : decode c_yMo_inText 28 = .ok (.iload 4, 2) := by decide +kernel
theorem d_Mo_inText_30 : decode c_yMo_inText 30 = .ok (.iload_n 3, 1) := by decide +kernel
theorem d_Mo_inText_31 : decode c_yMo_inText 31 = .ok (.aload_n 0, 1) := by decide +kernel
theorem d_Mo_inText_32 : decode c_yMo_inText 32 = .ok (.getfield 27, 3) := by decide +kernel
theorem d_Mo_inText_35 : decode c_yMo_inText 35 = .ok (.iconst 3, 1) := by decide +kernel
theorem d_Mo_inText_36 : decode c_yMo_inText 36 = .ok (.aload_n 0, 1) := by decide +kernel
theorem d_Mo_inText_37 : decode c_yMo_inText 37 = .ok (.getfield 78, 3) := by decide +kernel
theorem d_Mo_inText_40 : decode c_yMo_inText 40 = .ok (.imul, 1) := by decide +kernel
theorem d_Mo_inText_41 : decode c_yMo_inText 41 = .ok (.iconst 2, 1) := by decide +kernel
theorem d_Mo_inText_42 : decode c_yMo_inText 42 = .ok (.iadd, 1) := by decide +kernel
theorem d_Mo_inText_43 : decode c_yMo_inText 43 = .ok (.iaload, 1) := by decide +kernel
theorem d_Mo_inText_44 : decode c_yMo_inText 44 = .ok (.iadd, 1) := by decide +kernel
theorem d_Mo_inText_45 : decode c_yMo_inText 45 = .ok (.idiv, 1) := by decide +kernel
theorem d_Mo_inText_46 : decode c_yMo_inText 46 = .ok (.istore 6, 2) := by decide +kernel
theorem d_Mo_inText_48 : decode c_yMo_inText 48 = .ok (.iload 4, 2) := by decide +kernel
theorem d_Mo_inText_50 : decode c_yMo_inText 50 = .ok (.iload_n 3, 1) := by decide +kernel
theorem d_Mo_inText_51 : decode c_yMo_inText 51 = .ok (.aload_n 0, 1) := by decide +kernel
theorem d_Mo_inText_52 : decode c_yMo_inText 52 = .ok (.getfield 27, 3) := by decide +kernel
theorem d_Mo_inText_55 : decode c_yMo_inText 55 = .ok (.iconst 3, 1) := by decide +kernel
theorem d_Mo_inText_56 : decode c_yMo_inText 56 = .ok (.aload_n 0, 1) := by decide +kernel
theorem d_Mo_inText_57 : decode c_yMo_inText 57 = .ok (.getfield 78, 3) := by decide +kernel
theorem d_Mo_inText_60 : decode c_yMo_inText 60 = .ok (.imul, 1) := by decide +kernel
theorem d_Mo_inText_61 : decode c_yMo_inText 61 = .ok (.iconst 2, 1) := by decide +kernel
theorem d_Mo_inText_62 : decode c_yMo_inText 62 = .ok (.iadd, 1) := by decide +kernel
theorem d_Mo_inText_63 : decode c_yMo_inText 63 = .ok (.iaload, 1) := by decide +kernel
theorem d_Mo_inText_64 : decode c_yMo_inText 64 = .ok (.iadd, 1) := by decide +kernel
theorem d_Mo_inText_65 : decode c_yMo_inText 65 = .ok (.irem, 1) := by decide +kernel
theorem d_Mo_inText_66 : decode c_yMo_inText 66 = .ok (.istore 4, 2) := by decide +kernel
theorem d_Mo_inText_68 : decode c_yMo_inText 68 = .ok (.iload 6, 2) := by decide +kernel
theorem d_Mo_inText_70 : decode c_yMo_inText 70 = .ok (.aload_n 0, 1) := by decide +kernel
theorem d_Mo_inText_71 : decode c_yMo_inText 71 = .ok (.getfield 47, 3) := by decide +kernel
theorem d_Mo_inText_74 : decode c_yMo_inText 74 = .ok (.if_icmp .ge 71, 3) := by decide +kernel
theorem d_Mo_inText_77 : decode c_yMo_inText 77 = .ok (.iload 4, 2) := by decide +kernel
theorem d_Mo_inText_79 : decode c_yMo_inText 79 = .ok (.iload_n 3, 1) := by decide +kernel
theorem d_Mo_inText_80 : decode c_yMo_inText 80 = .ok (.if_icmp .ge 65, 3) := by decide +kernel
theorem d_Mo_inText_83 : decode c_yMo_inText 83 = .ok (.iload 5, 2) := by decide +kernel
theorem d_Mo_inText_85 : decode c_yMo_inText 85 = .ok (.aload_n 0, 1) := by decide +kernel
theorem d_Mo_inText_86 : decode c_yMo_inText 86 = .ok (.getfield 27, 3) := by decide +kernel
theorem d_Mo_inText_89 : decode c_yMo_inText 89 = .ok (.iconst 3, 1) := by decide +kernel
theorem d_Mo_inText_90 : decode c_yMo_inText 90 = .ok (.aload_n 0, 1) := by decide +kernel
theorem d_Mo_inText_91 : decode c_yMo_inText 91 = .ok (.getfield 78, 3) := by decide +kernel
theorem d_Mo_inText_94 : decode c_yMo_inText 94 = .ok (.imul, 1) := by decide +kernel
theorem d_Mo_inText_95 : decode c_yMo_inText 95 = .ok (.iconst 1, 1) := by decide +kernel
theorem d_Mo_inText_96 : decode c_yMo_inText 96 = .ok (.iadd, 1) := by decide +kernel
theorem d_Mo_inText_97 : decode c_yMo_inText 97 = .ok (.iaload, 1) := by decide +kernel
theorem d_Mo_inText_98 : decode c_yMo_inText 98 = .ok (.if_icmp .ge 47, 3) := by decide +kernel
theorem d_Mo_inText_101 : decode c_yMo_inText 101 = .ok (.aload_n 0, 1) := by decide +kernel
theorem d_Mo_inText_102 : decode c_yMo_inText 102 = .ok (.getfield 30, 3) := by decide +kernel
theorem d_Mo_inText_105 : decode c_yMo_inText 105 = .ok (.sipush 8192, 3) := by decide +kernel
theorem d_Mo_inText_108 : decode c_yMo_inText 108 = .ok (.aload_n 0, 1) := by decide +kernel
theorem d_Mo_inText_109 : decode c_yMo_inText 109 = .ok (.getfield 78, 3) := by decide +kernel
theorem d_Mo_inText_112 : decode c_yMo_inText 112 = .ok (.imul, 1) := by decide +kernel
theorem d_Mo_inText_113 : decode c_yMo_inText 113 = .ok (.bipush 32, 2) := by decide +kernel
theorem d_Mo_inText_115 : decode c_yMo_inText 115 = .ok (.aload_n 0, 1) := by decide +kernel
theorem d_Mo_inText_116 : decode c_yMo_inText 116 = .ok (.getfield 24, 3) := by decide +kernel
theorem d_Mo_inText_119 : decode c_yMo_inText 119 = .ok (.iload 6, 2) := by decide +kernel
theorem d_Mo_inText_121 : decode c_yMo_inText 121 = .ok (.iaload, 1) := by decide +kernel
theorem d_Mo_inText_122 : decode c_yMo_inText 122 = .ok (.imul, 1) := by decide +kernel
theorem d_Mo_inText_123 : decode c_yMo_inText 123 = .ok (.iadd, 1) := by decide +kernel
theorem d_Mo_inText_124 : decode c_yMo_inText 124 = .ok (.iload 5, 2) := by decide +kernel
theorem d_Mo_inText_126 : decode c_yMo_inText 126 = .ok (.iadd, 1) := by decide +kernel
theorem d_Mo_inText_127 : decode c_yMo_inText 127 = .ok (.iaload, 1) := by decide +kernel
theorem d_Mo_inText_128 : decode c_yMo_inText 128 = .ok (.iload_n 3, 1) := by decide +kernel
theorem d_Mo_inText_129 : decode c_yMo_inText 129 = .ok (.iconst 1, 1) := by decide +kernel
theorem d_Mo_inText_130 : decode c_yMo_inText 130 = .ok (.isub, 1) := by decide +kernel
theorem d_Mo_inText_131 : decode c_yMo_inText 131 = .ok (.iload 4, 2) := by decide +kernel
theorem d_Mo_inText_133 : decode c_yMo_inText 133 = .ok (.isub, 1) := by decide +kernel
theorem d_Mo_inText_134 : decode c_yMo_inText 134 = .ok (.ishr, 1) := by decide +kernel
theorem d_Mo_inText_135 : decode c_yMo_inText 135 = .ok (.iconst 1, 1) := by decide +kernel
theorem d_Mo_inText_136 : decode c_yMo_inText 136 = .ok (.iand, 1) := by decide +kernel
theorem d_Mo_inText_137 : decode c_yMo_inText 137 = .ok (.iconst 1, 1) := by decide +kernel
theorem d_Mo_inText_138 : decode c_yMo_inText 138 = .ok (.if_icmp .ne 7, 3) := by decide +kernel
theorem d_Mo_inText_141 : decode c_yMo_inText 141 = .ok (.iconst 1, 1) := by decide +kernel
theorem d_Mo_inText_142 : decode c_yMo_inText 142 = .ok (.goto 4, 3) := by decide +kernel
theorem d_Mo_inText_145 : decode c_yMo_inText 145 = .ok (.iconst 0, 1) := by decide +kernel
theorem d_Mo_inText_146 : decode c_yMo_inText 146 = .ok (.ireturn, 1) := by decide +kernel
set_option maxHeartbeats 4000000 in
set_option maxRecDepth 100000 in
theorem c_Model_inText (l : Launch) (dC : Nat → ClassId) (dI : Nat → Nat → Nat) (hm zd zb zt zs zc zo : Nat) (tw w h mn n fx fy fa fb fc qr fo : Int) (cI : ClassId) (Dt Sz Ce X : Int → Int32) (dr : Int → Int) (fw fh fg i j : Int) (i1 : 0 ≤ i) (i2 : i ≤ 5119) (j1 : 0 ≤ j) (j2 : j ≤ 5119) (a1 : 1 ≤ fa) (a2 : fa ≤ 10) (b1 : 1 ≤ fb) (b2 : fb ≤ 10) (o1 : 0 ≤ fo) (o2 : fo ≤ 3) (w1_ : 1 ≤ fw) (w2_ : fw ≤ 32) (h1_ : 1 ≤ fh) (h2_ : fh ≤ 32) (g1_ : 0 ≤ fg) (g2_ : fg ≤ 32) (z1 : Sz (3 * fo) = iZ fw) (z2 : Sz (3 * fo + 1) = iZ fh) (z3 : Sz (3 * fo + 2) = iZ fg) (hCe : ∀ k : Int, 0 ≤ k → k < 8192 → Ce (8192 * fo + k) = X k) (n1 : 0 ≤ n) (n2 : n ≤ 4096) (hT : RepT Dt n dr) : Met l y_Mo_inText w_Mo_inText ({ frames := 0, cells := 0, slots := 0, locals := 0 }) (va_Pc [.ref hm, .int (iZ i), .int (iZ j)] (zPr (dC, dI) vwCl [(hm, .inr (6, [.int (iZ tw), .int (iZ w), .int (iZ h), .int (iZ mn), .ref zd, .ref zb, .ref zt, .int (iZ n), .ref zs, .ref zc, .int (iZ fx), .int (iZ fy), .int (iZ fa), .int (iZ fb), .int (iZ fc), .int (iZ qr), .int (iZ fo), .ref zo])), (zt, .inl (cI, 4096, .inl (aI Dt))), (zs, .inl (cI, 12, .inl (aI Sz))), (zc, .inl (cI, 32768, .inl (aI Ce)))] [(cI, .int)])) (vp_Si (fun r => r = bI (decide (i / fa / (fw + fg) < n ∧ i / fa % (fw + fg) < fw ∧ j / fb < fh) && cellB X (dr (i / fa / (fw + fg))) fw (j / fb) (i / fa % (fw + fg))))) 0 0 (fun _ => False) := by
  refine Met.ofW (cc := c_yMo_inText) (maxL := 7) (ret := (some .boolean)) (by decide) rfl ?_
  intro p e s m args below meth c s₁ B hml hv
  obtain ⟨rfl, hP, hK⟩ := hv
  have hx := B.exec
  have hb := B.bytes
  have hr := B.returns
  have hts0 := atoms_spec (ws := w_Mo_inText) B.pre
  have hts : ∀ w ∈ gT, w.before _ s = true := fun w h => hts0 w (List.mem_cons_of_mem _ h)
  have hown : s.vm.findClass R_Mo = some m.cls := findClass_of_methodNamed B.named
  have hlocks := B.notSynchronized
  have hl := lv_entry ([.ref hm, .int (iZ i), .int (iZ j)]) (n := 7) (Nat.le_of_ble_eq_true rfl)
  rw [lg_entry_eq]
  generalize (lg_sl ([.ref hm, .int (iZ i), .int (iZ j)]) ++ List.replicate (7 - (lg_sl ([.ref hm, .int (iZ i), .int (iZ j)])).length) Slot.unset).toArray = ls at hl ⊢
  have hl : lv_has ls 7 [(0, .ref hm), (1, .int (iZ i)), (2, .int (iZ j))] := hl
  refine lv_aload_n hx hb d_Mo_inText_0 rfl (lv_at hl 0 rfl) ?_
  refine va_get (D := (dC, dI)) (ci := 6) (v := .ref zs) (C := R_Mo) (T := T_Mo) (N := 18) hx hb hts wi_Mo hown hK hP 0 rfl rfl 8 (by decide) (hts _ t_692) (fun _ h9 => h9) rfl d_Mo_inText_1 ?_
  refine lv_iconst (v := iZ (3)) hx hb d_Mo_inText_4 rfl ?_
  refine lv_aload_n hx hb d_Mo_inText_5 rfl (lv_at hl 0 rfl) ?_
  refine va_get (D := (dC, dI)) (ci := 6) (v := .int (iZ fo)) (C := R_Mo) (T := T_Mo) (N := 18) hx hb hts wi_Mo hown hK hP 0 rfl rfl 16 (by decide) (hts _ t_700) (fun _ h9 => h9) rfl d_Mo_inText_6 ?_
  refine zi_mul hx hb d_Mo_inText_9 ?_
  refine z_iald hx hb hK hP 2 0 rfl rfl (by omega) (by omega) (by omega) d_Mo_inText_10 ?_
  refine zn_eq (v2 := .int (iZ fw)) (congrArg Value.int (z1)) ?_
  refine lv_istore_n (lv' := [(3, .int (iZ fw)), (0, .ref hm), (1, .int (iZ i)), (2, .int (iZ j))]) hx hb d_Mo_inText_11 rfl hl (by decide) rfl (fun ls hl => ?_)
  refine lv_iload_n hx hb d_Mo_inText_12 rfl (lv_at hl 2 rfl) ?_
  refine lv_aload_n hx hb d_Mo_inText_13 rfl (lv_at hl 1 rfl) ?_
  refine va_get (D := (dC, dI)) (ci := 6) (v := .int (iZ fa)) (C := R_Mo) (T := T_Mo) (N := 18) hx hb hts wi_Mo hown hK hP 0 rfl rfl 12 (by decide) (hts _ t_696) (fun _ h9 => h9) rfl d_Mo_inText_14 ?_
  refine zi_div hx hb d_Mo_inText_17 (by omega) (by omega) (by omega) (by omega) ?_
  refine zn_z (fun ci e_ci => ?_)
  refine lv_istore (lv' := [(4, .int (iZ ci)), (3, .int (iZ fw)), (0, .ref hm), (1, .int (iZ i)), (2, .int (iZ j))]) hx hb d_Mo_inText_18 hl (by decide) rfl (fun ls hl => ?_)
  have n1a : 0 ≤ ci := by rw [e_ci]; exact Int.ediv_nonneg i1 (by omega)
  have n1b : ci ≤ i := by rw [e_ci]; exact Int.ediv_le_self _ i1
  refine lv_iload_n hx hb d_Mo_inText_20 rfl (lv_at hl 4 rfl) ?_
  refine lv_aload_n hx hb d_Mo_inText_21 rfl (lv_at hl 2 rfl) ?_
  refine va_get (D := (dC, dI)) (ci := 6) (v := .int (iZ fb)) (C := R_Mo) (T := T_Mo) (N := 18) hx hb hts wi_Mo hown hK hP 0 rfl rfl 13 (by decide) (hts _ t_697) (fun _ h9 => h9) rfl d_Mo_inText_22 ?_
  refine zi_div hx hb d_Mo_inText_25 (by omega) (by omega) (by omega) (by omega) ?_
  refine zn_z (fun rj e_rj => ?_)
  refine lv_istore (lv' := [(5, .int (iZ rj)), (4, .int (iZ ci)), (3, .int (iZ fw)), (0, .ref hm), (1, .int (iZ i)), (2, .int (iZ j))]) hx hb d_Mo_inText_26 hl (by decide) rfl (fun ls hl => ?_)
  have n2a : 0 ≤ rj := by rw [e_rj]; exact Int.ediv_nonneg j1 (by omega)
  have n2b : rj ≤ j := by rw [e_rj]; exact Int.ediv_le_self _ j1
  refine lv_iload hx hb d_Mo_inText_28 (lv_at hl 1 rfl) ?_
  refine lv_iload_n hx hb d_Mo_inText_30 rfl (lv_at hl 2 rfl) ?_
  refine lv_aload_n hx hb d_Mo_inText_31 rfl (lv_at hl 3 rfl) ?_
  refine va_get (D := (dC, dI)) (ci := 6) (v := .ref zs) (C := R_Mo) (T := T_Mo) (N := 18) hx hb hts wi_Mo hown hK hP 0 rfl rfl 8 (by decide) (hts _ t_692) (fun _ h9 => h9) rfl d_Mo_inText_32 ?_
  refine lv_iconst (v := iZ (3)) hx hb d_Mo_inText_35 rfl ?_
  refine lv_aload_n hx hb d_Mo_inText_36 rfl (lv_at hl 3 rfl) ?_
  refine va_get (D := (dC, dI)) (ci := 6) (v := .int (iZ fo)) (C := R_Mo) (T := T_Mo) (N := 18) hx hb hts wi_Mo hown hK hP 0 rfl rfl 16 (by decide) (hts _ t_700) (fun _ h9 => h9) rfl d_Mo_inText_37 ?_
  refine zi_mul hx hb d_Mo_inText_40 ?_
  refine lv_iconst (v := iZ (2)) hx hb d_Mo_inText_41 rfl ?_
  refine zi_add hx hb d_Mo_inText_42 ?_
  refine z_iald hx hb hK hP 2 0 rfl rfl (by omega) (by omega) (by omega) d_Mo_inText_43 ?_
  refine zn_eq (v2 := .int (iZ fg)) (congrArg Value.int (z3)) ?_
  refine zi_add hx hb d_Mo_inText_44 ?_
  refine zi_div hx hb d_Mo_inText_45 (by omega) (by omega) (by omega) (by omega) ?_
  refine zn_z (fun kk e_kk => ?_)
  refine lv_istore (lv' := [(6, .int (iZ kk)), (5, .int (iZ rj)), (4, .int (iZ ci)), (3, .int (iZ fw)), (0, .ref hm), (1, .int (iZ i)), (2, .int (iZ j))]) hx hb d_Mo_inText_46 hl (by decide) rfl (fun ls hl => ?_)
  have n3a : 0 ≤ kk := by rw [e_kk]; exact Int.ediv_nonneg n1a (by omega)
  have n3b : kk ≤ ci := by rw [e_kk]; exact Int.ediv_le_self _ n1a
  refine lv_iload hx hb d_Mo_inText_48 (lv_at hl 2 rfl) ?_
  refine lv_iload_n hx hb d_Mo_inText_50 rfl (lv_at hl 3 rfl) ?_
  refine lv_aload_n hx hb d_Mo_inText_51 rfl (lv_at hl 4 rfl) ?_
  refine va_get (D := (dC, dI)) (ci := 6) (v := .ref zs) (C := R_Mo) (T := T_Mo) (N := 18) hx hb hts wi_Mo hown hK hP 0 rfl rfl 8 (by decide) (hts _ t_692) (fun _ h9 => h9) rfl d_Mo_inText_52 ?_
  refine lv_iconst (v := iZ (3)) hx hb d_Mo_inText_55 rfl ?_
  refine lv_aload_n hx hb d_Mo_inText_56 rfl (lv_at hl 4 rfl) ?_
  refine va_get (D := (dC, dI)) (ci := 6) (v := .int (iZ fo)) (C := R_Mo) (T := T_Mo) (N := 18) hx hb hts wi_Mo hown hK hP 0 rfl rfl 16 (by decide) (hts _ t_700) (fun _ h9 => h9) rfl d_Mo_inText_57 ?_
  refine zi_mul hx hb d_Mo_inText_60 ?_
  refine lv_iconst (v := iZ (2)) hx hb d_Mo_inText_61 rfl ?_
  refine zi_add hx hb d_Mo_inText_62 ?_
  refine z_iald hx hb hK hP 2 0 rfl rfl (by omega) (by omega) (by omega) d_Mo_inText_63 ?_
  refine zn_eq (v2 := .int (iZ fg)) (congrArg Value.int (z3)) ?_
  refine zi_add hx hb d_Mo_inText_64 ?_
  refine zi_rem hx hb d_Mo_inText_65 (by omega) (by omega) (by omega) (by omega) ?_
  refine zn_z (fun cc_ e_cc_ => ?_)
  refine lv_istore (lv' := [(4, .int (iZ cc_)), (6, .int (iZ kk)), (5, .int (iZ rj)), (3, .int (iZ fw)), (0, .ref hm), (1, .int (iZ i)), (2, .int (iZ j))]) hx hb d_Mo_inText_66 hl (by decide) rfl (fun ls hl => ?_)
  have n4a : 0 ≤ cc_ := by rw [e_cc_]; exact Int.emod_nonneg _ (by omega)
  have n4b : cc_ < fw + fg := by rw [e_cc_]; exact Int.emod_lt_of_pos _ (by omega)
  rw [← e_ci, ← e_rj, ← e_kk, ← e_cc_]
  refine lv_iload hx hb d_Mo_inText_68 (lv_at hl 1 rfl) ?_
  refine lv_aload_n hx hb d_Mo_inText_70 rfl (lv_at hl 4 rfl) ?_
  refine va_get (D := (dC, dI)) (ci := 6) (v := .int (iZ n)) (C := R_Mo) (T := T_Mo) (N := 18) hx hb hts wi_Mo hown hK hP 0 rfl rfl 7 (by decide) (hts _ t_691) (fun _ h9 => h9) rfl d_Mo_inText_71 ?_
  refine zi_ge (tgt := 145) hx hb d_Mo_inText_74 (by decide) (by omega) (by omega) (by omega) (by omega) (fun c_74 => ?_) (fun c_74 => ?_)
  · refine lv_iconst (v := iZ (0)) hx hb d_Mo_inText_145 rfl ?_
    exact W.zret (ty := .boolean) hx hb hr (by decide) (fun t ht hW => ⟨_, rfl, by rw [decide_eq_false (show ¬ (kk < n ∧ cc_ < fw ∧ rj < fh) by omega)]; rfl, ht⟩) (fun q h => nomatch h) d_Mo_inText_146
  · refine lv_iload hx hb d_Mo_inText_77 (lv_at hl 0 rfl) ?_
    refine lv_iload_n hx hb d_Mo_inText_79 rfl (lv_at hl 3 rfl) ?_
    refine zi_ge (tgt := 145) hx hb d_Mo_inText_80 (by decide) (by omega) (by omega) (by omega) (by omega) (fun c_80 => ?_) (fun c_80 => ?_)
    · refine lv_iconst (v := iZ (0)) hx hb d_Mo_inText_145 rfl ?_
      exact W.zret (ty := .boolean) hx hb hr (by decide) (fun t ht hW => ⟨_, rfl, by rw [decide_eq_false (show ¬ (kk < n ∧ cc_ < fw ∧ rj < fh) by omega)]; rfl, ht⟩) (fun q h => nomatch h) d_Mo_inText_146
    · refine lv_iload hx hb d_Mo_inText_83 (lv_at hl 2 rfl) ?_
      refine lv_aload_n hx hb d_Mo_inText_85 rfl (lv_at hl 4 rfl) ?_
      refine va_get (D := (dC, dI)) (ci := 6) (v := .ref zs) (C := R_Mo) (T := T_Mo) (N := 18) hx hb hts wi_Mo hown hK hP 0 rfl rfl 8 (by decide) (hts _ t_692) (fun _ h9 => h9) rfl d_Mo_inText_86 ?_
      refine lv_iconst (v := iZ (3)) hx hb d_Mo_inText_89 rfl ?_
      refine lv_aload_n hx hb d_Mo_inText_90 rfl (lv_at hl 4 rfl) ?_
      refine va_get (D := (dC, dI)) (ci := 6) (v := .int (iZ fo)) (C := R_Mo) (T := T_Mo) (N := 18) hx hb hts wi_Mo hown hK hP 0 rfl rfl 16 (by decide) (hts _ t_700) (fun _ h9 => h9) rfl d_Mo_inText_91 ?_
      refine zi_mul hx hb d_Mo_inText_94 ?_
      refine lv_iconst (v := iZ (1)) hx hb d_Mo_inText_95 rfl ?_
      refine zi_add hx hb d_Mo_inText_96 ?_
      refine z_iald hx hb hK hP 2 0 rfl rfl (by omega) (by omega) (by omega) d_Mo_inText_97 ?_
      refine zn_eq (v2 := .int (iZ fh)) (congrArg Value.int (z2)) ?_
      refine zi_ge (tgt := 145) hx hb d_Mo_inText_98 (by decide) (by omega) (by omega) (by omega) (by omega) (fun c_98 => ?_) (fun c_98 => ?_)
      · refine lv_iconst (v := iZ (0)) hx hb d_Mo_inText_145 rfl ?_
        exact W.zret (ty := .boolean) hx hb hr (by decide) (fun t ht hW => ⟨_, rfl, by rw [decide_eq_false (show ¬ (kk < n ∧ cc_ < fw ∧ rj < fh) by omega)]; rfl, ht⟩) (fun q h => nomatch h) d_Mo_inText_146
      · refine lv_aload_n hx hb d_Mo_inText_101 rfl (lv_at hl 4 rfl) ?_
        refine va_get (D := (dC, dI)) (ci := 6) (v := .ref zc) (C := R_Mo) (T := T_Mo) (N := 18) hx hb hts wi_Mo hown hK hP 0 rfl rfl 9 (by decide) (hts _ t_693) (fun _ h9 => h9) rfl d_Mo_inText_102 ?_
        refine lv_sipush (v := iZ (8192)) hx hb d_Mo_inText_105 (by decide) ?_
        refine lv_aload_n hx hb d_Mo_inText_108 rfl (lv_at hl 4 rfl) ?_
        refine va_get (D := (dC, dI)) (ci := 6) (v := .int (iZ fo)) (C := R_Mo) (T := T_Mo) (N := 18) hx hb hts wi_Mo hown hK hP 0 rfl rfl 16 (by decide) (hts _ t_700) (fun _ h9 => h9) rfl d_Mo_inText_109 ?_
        refine zi_mul hx hb d_Mo_inText_112 ?_
        refine lv_bipush (v := iZ (32)) hx hb d_Mo_inText_113 (by decide) ?_
        refine lv_aload_n hx hb d_Mo_inText_115 rfl (lv_at hl 4 rfl) ?_
        refine va_get (D := (dC, dI)) (ci := 6) (v := .ref zt) (C := R_Mo) (T := T_Mo) (N := 18) hx hb hts wi_Mo hown hK hP 0 rfl rfl 6 (by decide) (hts _ t_690) (fun _ h9 => h9) rfl d_Mo_inText_116 ?_
        refine lv_iload hx hb d_Mo_inText_119 (lv_at hl 1 rfl) ?_
        refine z_iald hx hb hK hP 1 0 rfl rfl (by omega) (by omega) (by omega) d_Mo_inText_121 ?_
        have d8 := (hT kk (by omega) (by omega)).2
        refine zn_eq (v2 := .int (iZ (dr kk))) (congrArg Value.int ((hT kk (by omega) (by omega)).1)) ?_
        refine zi_mul hx hb d_Mo_inText_122 ?_
        refine zi_add hx hb d_Mo_inText_123 ?_
        refine lv_iload hx hb d_Mo_inText_124 (lv_at hl 2 rfl) ?_
        refine zi_add hx hb d_Mo_inText_126 ?_
        refine z_iald hx hb hK hP 3 0 rfl rfl (by omega) (by omega) (by omega) d_Mo_inText_127 ?_
        refine lv_iload_n hx hb d_Mo_inText_128 rfl (lv_at hl 3 rfl) ?_
        refine lv_iconst (v := iZ (1)) hx hb d_Mo_inText_129 rfl ?_
        refine zi_sub hx hb d_Mo_inText_130 ?_
        refine lv_iload hx hb d_Mo_inText_131 (lv_at hl 0 rfl) ?_
        refine zi_sub hx hb d_Mo_inText_133 ?_
        refine lv_ishr hx hb d_Mo_inText_134 ?_
        refine lv_iconst (v := iZ (1)) hx hb d_Mo_inText_135 rfl ?_
        refine lv_iand hx hb d_Mo_inText_136 ?_
        have d9 := fb_shr (Ce (8192 * fo + 32 * dr kk + rj)) (k := fw - 1 - cc_) (by omega) (by omega)
        rw [show 8192 * fo + 32 * dr kk + rj = 8192 * fo + (dr kk * 32 + rj) by omega] at d9 ⊢
        rw [hCe (dr kk * 32 + rj) (by omega) (by omega)] at d9 ⊢
        refine lv_iconst (v := iZ (1)) hx hb d_Mo_inText_137 rfl ?_
        refine lv_icmp_ne (tgt := 145) hx hb d_Mo_inText_138 (by decide) (fun c_138 => ?_) (fun c_138 => ?_)
        · refine lv_iconst (v := iZ (0)) hx hb d_Mo_inText_145 rfl ?_
          exact W.zret (ty := .boolean) hx hb hr (by decide) (fun t ht hW => ⟨_, rfl, by rw [show cellB X (dr kk) fw rj cc_ = false from Bool.eq_false_iff.mpr (fun q => c_138 (d9.mpr q)), Bool.and_false]; rfl, ht⟩) (fun q h => nomatch h) d_Mo_inText_146
        · refine lv_iconst (v := iZ (1)) hx hb d_Mo_inText_141 rfl ?_
          refine lv_goto (tgt := 146) hx hb d_Mo_inText_142 (by decide) ?_
          exact W.zret (ty := .boolean) hx hb hr (by decide) (fun t ht hW => ⟨_, rfl, by rw [decide_eq_true (show kk < n ∧ cc_ < fw ∧ rj < fh by omega), show cellB X (dr kk) fw rj cc_ = true from d9.mp c_138]; rfl, ht⟩) (fun q h => nomatch h) d_Mo_inText_146
theorem d_Mo_inSquare_0 : decode c_yMo_inSquare 0 = .ok (.iload_n 1, 1) := by decide +kernel
theorem d_Mo_inSquare_1 : decode c_yMo_inSquare 1 = .ok (.aload_n 0, 1) := by decide +kernel
theorem d_Mo_inSquare_2 : decode c_yMo_inSquare 2 = .ok (.getfield 61, 3) := by decide +kernel
theorem d_Mo_inSquare_5 : decode c_yMo_inSquare 5 = .ok (.idiv, 1) := by decide +kernel
theorem d_Mo_inSquare_6 : decode c_yMo_inSquare 6 = .ok (.istore_n 3, 1) := by decide +kernel
theorem d_Mo_inSquare_7 : decode c_yMo_inSquare 7 = .ok (.iload_n 2, 1) := by decide +kernel
theorem d_Mo_inSquare_8 : decode c_yMo_inSquare 8 = .ok (.aload_n 0, 1) := by decide +kernel
theorem d_Mo_inSquare_9 : decode c_yMo_inSquare 9 = .ok (.getfield 61, 3) := by decide +kernel
theorem d_Mo_inSquare_12 : decode c_yMo_inSquare 12 = .ok (.idiv, 1) := by decide +kernel
theorem d_Mo_inSquare_13 : decode c_yMo_inSquare 13 = .ok (.istore 4, 2) := by decide +kernel
theorem d_Mo_inSquare_15 : decode c_yMo_inSquare 15 = .ok (.iload_n 3, 1) := by decide +kernel
theorem d_Mo_inSquare_16 : decode c_yMo_inSquare 16 = .ok (.aload_n 0, 1) := by decide +kernel
theorem d_Mo_inSquare_17 : decode c_yMo_inSquare 17 = .ok (.getfield 55, 3) := by decide +kernel
theorem d_Mo_inSquare_20 : decode c_yMo_inSquare 20 = .ok (.if_icmp .ge 32, 3) := by decide +kernel
theorem d_Mo_inSquare_23 : decode c_yMo_inSquare 23 = .ok (.iload 4, 2) := by decide +kernel
theorem d_Mo_inSquare_25 : decode c_yMo_inSquare 25 = .ok (.aload_n 0, 1) := by decide +kernel
theorem d_Mo_inSquare_26 : decode c_yMo_inSquare 26 = .ok (.getfield 55, 3) := by decide +kernel
theorem d_Mo_inSquare_29 : decode c_yMo_inSquare 29 = .ok (.if_icmp .ge 23, 3) := by decide +kernel
theorem d_Mo_inSquare_32 : decode c_yMo_inSquare 32 = .ok (.aload_n 0, 1) := by decide +kernel
theorem d_Mo_inSquare_33 : decode c_yMo_inSquare 33 = .ok (.aload_n 0, 1) := by decide +kernel
theorem d_Mo_inSquare_34 : decode c_yMo_inSquare 34 = .ok (.getfield 55, 3) := by decide +kernel
theorem d_Mo_inSquare_37 : decode c_yMo_inSquare 37 = .ok (.iload 4, 2) := by decide +kernel
theorem d_Mo_inSquare_39 : decode c_yMo_inSquare 39 = .ok (.imul, 1) := by decide +kernel
theorem d_Mo_inSquare_40 : decode c_yMo_inSquare 40 = .ok (.iload_n 3, 1) := by decide +kernel
theorem d_Mo_inSquare_41 : decode c_yMo_inSquare 41 = .ok (.iadd, 1) := by decide +kernel
theorem d_Mo_inSquare_42 : decode c_yMo_inSquare 42 = .ok (.invokevirtual 81, 3) := by decide +kernel
theorem d_Mo_inSquare_45 : decode c_yMo_inSquare 45 = .ok (.ifCond .eq 7, 3) := by decide +kernel
theorem d_Mo_inSquare_48 : decode c_yMo_inSquare 48 = .ok (.iconst 1, 1) := by decide +kernel
theorem d_Mo_inSquare_49 : decode c_yMo_inSquare 49 = .ok (.goto 4, 3) := by decide +kernel
theorem d_Mo_inSquare_52 : decode c_yMo_inSquare 52 = .ok (.iconst 0, 1) := by decide +kernel
theorem d_Mo_inSquare_53 : decode c_yMo_inSquare 53 = .ok (.ireturn, 1) := by decide +kernel
set_option maxHeartbeats 4000000 in
set_option maxRecDepth 100000 in
theorem c_Model_inSquare (l : Launch) (dC : Nat → ClassId) (dI : Nat → Nat → Nat) (hm zd zb zt zs zc zo : Nat) (tw w h mn n fx fy fa fb fc qr fo : Int) (cI : ClassId) (Dt : Int → Int32) (dr : Int → Int) (i j : Int) (i1 : 0 ≤ i) (i2 : i ≤ 5119) (j1 : 0 ≤ j) (j2 : j ≤ 5119) (a1 : 1 ≤ fa) (a2 : fa ≤ 177) (b1 : 1 ≤ fb) (b2 : fb ≤ 50) (hq : fa * fa ≤ 8 * n) (n1 : 0 ≤ n) (n2 : n ≤ 4096) (hT : RepT Dt n dr) : Met l y_Mo_inSquare w_Mo_inSquare ({ frames := 1, cells := 0, slots := 0, locals := 21 }) (va_Pc [.ref hm, .int (iZ i), .int (iZ j)] (zPr (dC, dI) vwCl [(hm, .inr (6, [.int (iZ tw), .int (iZ w), .int (iZ h), .int (iZ mn), .ref zd, .ref zb, .ref zt, .int (iZ n), .ref zs, .ref zc, .int (iZ fx), .int (iZ fy), .int (iZ fa), .int (iZ fb), .int (iZ fc), .int (iZ qr), .int (iZ fo), .ref zo])), (zt, .inl (cI, 4096, .inl (aI Dt)))] [(cI, .int)])) (vp_Si (fun r => r = bI (decide (i / fb < fa ∧ j / fb < fa) && pcD dr (fa * (j / fb) + i / fb)))) 0 0 (fun _ => False) := by
  refine Met.ofW (cc := c_yMo_inSquare) (maxL := 5) (ret := (some .boolean)) (by decide) rfl ?_
  intro p e s m args below meth c s₁ B hml hv
  obtain ⟨rfl, hP, hK⟩ := hv
  have hx := B.exec
  have hb := B.bytes
  have hr := B.returns
  have hts0 := atoms_spec (ws := w_Mo_inSquare) B.pre
  have hts : ∀ w ∈ gT, w.before _ s = true := fun w h => hts0 w (List.mem_cons_of_mem _ h)
  have hown : s.vm.findClass R_Mo = some m.cls := findClass_of_methodNamed B.named
  have hlocks := B.notSynchronized
  have hl := lv_entry ([.ref hm, .int (iZ i), .int (iZ j)]) (n := 5) (Nat.le_of_ble_eq_true rfl)
  rw [lg_entry_eq]
  generalize (lg_sl ([.ref hm, .int (iZ i), .int (iZ j)]) ++ List.replicate (5 - (lg_sl ([.ref hm, .int (iZ i), .int (iZ j)])).length) Slot.unset).toArray = ls at hl ⊢
  have hl : lv_has ls 5 [(0, .ref hm), (1, .int (iZ i)), (2, .int (iZ j))] := hl
  refine lv_iload_n hx hb d_Mo_inSquare_0 rfl (lv_at hl 1 rfl) ?_
  refine lv_aload_n hx hb d_Mo_inSquare_1 rfl (lv_at hl 0 rfl) ?_
  refine va_get (D := (dC, dI)) (ci := 6) (v := .int (iZ fb)) (C := R_Mo) (T := T_Mo) (N := 18) hx hb hts wi_Mo hown hK hP 0 rfl rfl 13 (by decide) (hts _ t_697) (fun _ h9 => h9) rfl d_Mo_inSquare_2 ?_
  refine zi_div hx hb d_Mo_inSquare_5 (by omega) (by omega) (by omega) (by omega) ?_
  refine zn_z (fun ci e_ci => ?_)
  refine lv_istore_n (lv' := [(3, .int (iZ ci)), (0, .ref hm), (1, .int (iZ i)), (2, .int (iZ j))]) hx hb d_Mo_inSquare_6 rfl hl (by decide) rfl (fun ls hl => ?_)
  have n1a : 0 ≤ ci := by rw [e_ci]; exact Int.ediv_nonneg i1 (by omega)
  have n1b : ci ≤ i := by rw [e_ci]; exact Int.ediv_le_self _ i1
  refine lv_iload_n hx hb d_Mo_inSquare_7 rfl (lv_at hl 3 rfl) ?_
  refine lv_aload_n hx hb d_Mo_inSquare_8 rfl (lv_at hl 1 rfl) ?_
  refine va_get (D := (dC, dI)) (ci := 6) (v := .int (iZ fb)) (C := R_Mo) (T := T_Mo) (N := 18) hx hb hts wi_Mo hown hK hP 0 rfl rfl 13 (by decide) (hts _ t_697) (fun _ h9 => h9) rfl d_Mo_inSquare_9 ?_
  refine zi_div hx hb d_Mo_inSquare_12 (by omega) (by omega) (by omega) (by omega) ?_
  refine zn_z (fun rj e_rj => ?_)
  refine lv_istore (lv' := [(4, .int (iZ rj)), (3, .int (iZ ci)), (0, .ref hm), (1, .int (iZ i)), (2, .int (iZ j))]) hx hb d_Mo_inSquare_13 hl (by decide) rfl (fun ls hl => ?_)
  have n2a : 0 ≤ rj := by rw [e_rj]; exact Int.ediv_nonneg j1 (by omega)
  have n2b : rj ≤ j := by rw [e_rj]; exact Int.ediv_le_self _ j1
  rw [← e_ci, ← e_rj]
  refine lv_iload_n hx hb d_Mo_inSquare_15 rfl (lv_at hl 1 rfl) ?_
  refine lv_aload_n hx hb d_Mo_inSquare_16 rfl (lv_at hl 2 rfl) ?_
  refine va_get (D := (dC, dI)) (ci := 6) (v := .int (iZ fa)) (C := R_Mo) (T := T_Mo) (N := 18) hx hb hts wi_Mo hown hK hP 0 rfl rfl 12 (by decide) (hts _ t_696) (fun _ h9 => h9) rfl d_Mo_inSquare_17 ?_
  refine zi_ge (tgt := 52) hx hb d_Mo_inSquare_20 (by decide) (by omega) (by omega) (by omega) (by omega) (fun c_20 => ?_) (fun c_20 => ?_)
  · refine lv_iconst (v := iZ (0)) hx hb d_Mo_inSquare_52 rfl ?_
    exact W.zret (ty := .boolean) hx hb hr (by decide) (fun t ht hW => ⟨_, rfl, by rw [decide_eq_false (show ¬ (ci < fa ∧ rj < fa) by omega)]; rfl, ht⟩) (fun q h => nomatch h) d_Mo_inSquare_53
  · refine lv_iload hx hb d_Mo_inSquare_23 (lv_at hl 0 rfl) ?_
    refine lv_aload_n hx hb d_Mo_inSquare_25 rfl (lv_at hl 2 rfl) ?_
    refine va_get (D := (dC, dI)) (ci := 6) (v := .int (iZ fa)) (C := R_Mo) (T := T_Mo) (N := 18) hx hb hts wi_Mo hown hK hP 0 rfl rfl 12 (by decide) (hts _ t_696) (fun _ h9 => h9) rfl d_Mo_inSquare_26 ?_
    refine zi_ge (tgt := 52) hx hb d_Mo_inSquare_29 (by decide) (by omega) (by omega) (by omega) (by omega) (fun c_29 => ?_) (fun c_29 => ?_)
    · refine lv_iconst (v := iZ (0)) hx hb d_Mo_inSquare_52 rfl ?_
      exact W.zret (ty := .boolean) hx hb hr (by decide) (fun t ht hW => ⟨_, rfl, by rw [decide_eq_false (show ¬ (ci < fa ∧ rj < fa) by omega)]; rfl, ht⟩) (fun q h => nomatch h) d_Mo_inSquare_53
    · have x9 := sq_in (r := rj) (c := ci) a1 n1a (by omega) n2a (by omega) hq
      refine lv_aload_n hx hb d_Mo_inSquare_32 rfl (lv_at hl 2 rfl) ?_
      refine lv_aload_n hx hb d_Mo_inSquare_33 rfl (lv_at hl 2 rfl) ?_
      refine va_get (D := (dC, dI)) (ci := 6) (v := .int (iZ fa)) (C := R_Mo) (T := T_Mo) (N := 18) hx hb hts wi_Mo hown hK hP 0 rfl rfl 12 (by decide) (hts _ t_696) (fun _ h9 => h9) rfl d_Mo_inSquare_34 ?_
      refine lv_iload hx hb d_Mo_inSquare_37 (lv_at hl 0 rfl) ?_
      refine zi_mul hx hb d_Mo_inSquare_39 ?_
      refine lv_iload_n hx hb d_Mo_inSquare_40 rfl (lv_at hl 1 rfl) ?_
      refine zi_add hx hb d_Mo_inSquare_41 ?_
      refine vp_callSi (va_runV (As := [.int (iZ ((fa * rj) + ci))]) (rest := []) ⟨hx, hb, hml, hown, hts⟩ (c_Model_bit l dC dI hm zd zb zt zs zc zo tw w h mn n fx fy fa fb fc qr fo cI Dt dr ((fa * rj) + ci) (by first | omega | assumption) (by first | omega | assumption) (by first | omega | assumption) (x9.1) (x9.2)) (cwV 1 hts (gV t_807 t_809 s_22 t_6 t_810) rfl rfl rfl (by decide +kernel) ⟨Nat.le_of_ble_eq_true rfl, Nat.le_of_ble_eq_true rfl⟩) ⟨zPr_blind, va_recv hK hP (ci := 6) (q0 := 0) rfl rfl, zPr_pre hP hK [0, 1] [0] rfl rfl⟩ rfl rfl hl.1 rfl (lv_room (Nat.le_of_ble_eq_true rfl)) d_Mo_inSquare_42 ⟨Nat.le_of_ble_eq_true rfl, Nat.le_of_ble_eq_true rfl⟩).run (fun r_42 q_42 => ?_)
      obtain rfl := q_42
      refine zb_if_eq (tgt := 52) hx hb d_Mo_inSquare_45 (by decide) (fun c_45 => ?_) (fun c_45 => ?_)
      · refine lv_iconst (v := iZ (0)) hx hb d_Mo_inSquare_52 rfl ?_
        exact W.zret (ty := .boolean) hx hb hr (by decide) (fun t ht hW => ⟨_, rfl, by rw [c_45, Bool.and_false]; rfl, ht⟩) (fun q h => nomatch h) d_Mo_inSquare_53
      · refine lv_iconst (v := iZ (1)) hx hb d_Mo_inSquare_48 rfl ?_
        refine lv_goto (tgt := 53) hx hb d_Mo_inSquare_49 (by decide) ?_
        exact W.zret (ty := .boolean) hx hb hr (by decide) (fun t ht hW => ⟨_, rfl, by rw [decide_eq_true (show ci < fa ∧ rj < fa by omega), c_45]; rfl, ht⟩) (fun q h => nomatch h) d_Mo_inSquare_53
theorem d_Mo_inPicture_0 : decode c_yMo_inPicture 0 = .ok (.iload_n 1, 1) := by decide +kernel
theorem d_Mo_inPicture_1 : decode c_yMo_inPicture 1 = .ok (.aload_n 0, 1) := by decide +kernel
theorem d_Mo_inPicture_2 : decode c_yMo_inPicture 2 = .ok (.getfield 52, 3) := by decide +kernel
theorem d_Mo_inPicture_5 : decode c_yMo_inPicture 5 = .ok (.isub, 1) := by decide +kernel
theorem d_Mo_inPicture_6 : decode c_yMo_inPicture 6 = .ok (.istore_n 3, 1) := by decide +kernel
theorem d_Mo_inPicture_7 : decode c_yMo_inPicture 7 = .ok (.iload_n 2, 1) := by decide +kernel
theorem d_Mo_inPicture_8 : decode c_yMo_inPicture 8 = .ok (.aload_n 0, 1) := by decide +kernel
theorem d_Mo_inPicture_9 : decode c_yMo_inPicture 9 = .ok (.getfield 58, 3) := by decide +kernel
theorem d_Mo_inPicture_12 : decode c_yMo_inPicture 12 = .ok (.isub, 1) := by decide +kernel
theorem d_Mo_inPicture_13 : decode c_yMo_inPicture 13 = .ok (.istore 4, 2) := by decide +kernel
theorem d_Mo_inPicture_15 : decode c_yMo_inPicture 15 = .ok (.aload_n 0, 1) := by decide +kernel
theorem d_Mo_inPicture_16 : decode c_yMo_inPicture 16 = .ok (.getfield 55, 3) := by decide +kernel
theorem d_Mo_inPicture_19 : decode c_yMo_inPicture 19 = .ok (.bipush 7, 2) := by decide +kernel
theorem d_Mo_inPicture_21 : decode c_yMo_inPicture 21 = .ok (.iadd, 1) := by decide +kernel
theorem d_Mo_inPicture_22 : decode c_yMo_inPicture 22 = .ok (.bipush 8, 2) := by decide +kernel
theorem d_Mo_inPicture_24 : decode c_yMo_inPicture 24 = .ok (.idiv, 1) := by decide +kernel
theorem d_Mo_inPicture_25 : decode c_yMo_inPicture 25 = .ok (.istore 5, 2) := by decide +kernel
theorem d_Mo_inPicture_27 : decode c_yMo_inPicture 27 = .ok (.iload_n 3, 1) := by decide +kernel
theorem d_Mo_inPicture_28 : decode c_yMo_inPicture 28 = .ok (.ifCond .lt 49, 3) := by decide +kernel
theorem d_Mo_inPicture_31 : decode c_yMo_inPicture 31 = .ok (.iload_n 3, 1) := by decide +kernel
theorem d_Mo_inPicture_32 : decode c_yMo_inPicture 32 = .ok (.aload_n 0, 1) := by decide +kernel
theorem d_Mo_inPicture_33 : decode c_yMo_inPicture 33 = .ok (.getfield 55, 3) := by decide +kernel
theorem d_Mo_inPicture_36 : decode c_yMo_inPicture 36 = .ok (.if_icmp .ge 41, 3) := by decide +kernel
theorem d_Mo_inPicture_39 : decode c_yMo_inPicture 39 = .ok (.iload 4, 2) := by decide +kernel
theorem d_Mo_inPicture_41 : decode c_yMo_inPicture 41 = .ok (.ifCond .lt 36, 3) := by decide +kernel
theorem d_Mo_inPicture_44 : decode c_yMo_inPicture 44 = .ok (.iload 4, 2) := by decide +kernel
theorem d_Mo_inPicture_46 : decode c_yMo_inPicture 46 = .ok (.aload_n 0, 1) := by decide +kernel
theorem d_Mo_inPicture_47 : decode c_yMo_inPicture 47 = .ok (.getfield 47, 3) := by decide +kernel
theorem d_Mo_inPicture_50 : decode c_yMo_inPicture 50 = .ok (.iload 5, 2) := by decide +kernel
theorem d_Mo_inPicture_52 : decode c_yMo_inPicture 52 = .ok (.idiv, 1) := by decide +kernel
theorem d_Mo_inPicture_53 : decode c_yMo_inPicture 53 = .ok (.if_icmp .ge 24, 3) := by decide +kernel
theorem d_Mo_inPicture_56 : decode c_yMo_inPicture 56 = .ok (.aload_n 0, 1) := by decide +kernel
theorem d_Mo_inPicture_57 : decode c_yMo_inPicture 57 = .ok (.bipush 8, 2) := by decide +kernel
theorem d_Mo_inPicture_59 : decode c_yMo_inPicture 59 = .ok (.iload 5, 2) := by decide +kernel
theorem d_Mo_inPicture_61 : decode c_yMo_inPicture 61 = .ok (.imul, 1) := by decide +kernel
theorem d_Mo_inPicture_62 : decode c_yMo_inPicture 62 = .ok (.iload 4, 2) := by decide +kernel
theorem d_Mo_inPicture_64 : decode c_yMo_inPicture 64 = .ok (.imul, 1) := by decide +kernel
theorem d_Mo_inPicture_65 : decode c_yMo_inPicture 65 = .ok (.iload_n 3, 1) := by decide +kernel
theorem d_Mo_inPicture_66 : decode c_yMo_inPicture 66 = .ok (.iadd, 1) := by decide +kernel
theorem d_Mo_inPicture_67 : decode c_yMo_inPicture 67 = .ok (.invokevirtual 81, 3) := by decide +kernel
theorem d_Mo_inPicture_70 : decode c_yMo_inPicture 70 = .ok (.ifCond .eq 7, 3) := by decide +kernel
theorem d_Mo_inPicture_73 : decode c_yMo_inPicture 73 = .ok (.iconst 1, 1) := by decide +kernel
theorem d_Mo_inPicture_74 : decode c_yMo_inPicture 74 = .ok (.goto 4, 3) := by decide +kernel
theorem d_Mo_inPicture_77 : decode c_yMo_inPicture 77 = .ok (.iconst 0, 1) := by decide +kernel
theorem d_Mo_inPicture_78 : decode c_yMo_inPicture 78 = .ok (.ireturn, 1) := by decide +kernel
set_option maxHeartbeats 4000000 in
set_option maxRecDepth 100000 in
theorem c_Model_inPicture (l : Launch) (dC : Nat → ClassId) (dI : Nat → Nat → Nat) (hm zd zb zt zs zc zo : Nat) (tw w h mn n fx fy fa fb fc qr fo : Int) (cI : ClassId) (Dt : Int → Int32) (dr : Int → Int) (px py : Int) (px1 : 0 ≤ px) (px2 : px ≤ 1023) (py1 : 0 ≤ py) (py2 : py ≤ 1023) (fx1 : -4096 ≤ fx) (fx2 : fx ≤ 4096) (fy1 : -4096 ≤ fy) (fy2 : fy ≤ 4096) (a1 : 1 ≤ fa) (a2 : fa ≤ 2048) (n1 : 0 ≤ n) (n2 : n ≤ 4096) (hT : RepT Dt n dr) : Met l y_Mo_inPicture w_Mo_inPicture ({ frames := 1, cells := 0, slots := 0, locals := 21 }) (va_Pc [.ref hm, .int (iZ px), .int (iZ py)] (zPr (dC, dI) vwCl [(hm, .inr (6, [.int (iZ tw), .int (iZ w), .int (iZ h), .int (iZ mn), .ref zd, .ref zb, .ref zt, .int (iZ n), .ref zs, .ref zc, .int (iZ fx), .int (iZ fy), .int (iZ fa), .int (iZ fb), .int (iZ fc), .int (iZ qr), .int (iZ fo), .ref zo])), (zt, .inl (cI, 4096, .inl (aI Dt)))] [(cI, .int)])) (vp_Si (fun r => r = bI (picB dr fx fy fa ((fa + 7) / 8) (n / ((fa + 7) / 8)) px py))) 0 0 (fun _ => False) := by
  refine Met.ofW (cc := c_yMo_inPicture) (maxL := 6) (ret := (some .boolean)) (by decide) rfl ?_
  intro p e s m args below meth c s₁ B hml hv
  obtain ⟨rfl, hP, hK⟩ := hv
  have hx := B.exec
  have hb := B.bytes
  have hr := B.returns
  have hts0 := atoms_spec (ws := w_Mo_inPicture) B.pre
  have hts : ∀ w ∈ gT, w.before _ s = true := fun w h => hts0 w (List.mem_cons_of_mem _ h)
  have hown : s.vm.findClass R_Mo = some m.cls := findClass_of_methodNamed B.named
  have hlocks := B.notSynchronized
  have hl := lv_entry ([.ref hm, .int (iZ px), .int (iZ py)]) (n := 6) (Nat.le_of_ble_eq_true rfl)
  rw [lg_entry_eq]
  generalize (lg_sl ([.ref hm, .int (iZ px), .int (iZ py)]) ++ List.replicate (6 - (lg_sl ([.ref hm, .int (iZ px), .int (iZ py)])).length) Slot.unset).toArray = ls at hl ⊢
  have hl : lv_has ls 6 [(0, .ref hm), (1, .int (iZ px)), (2, .int (iZ py))] := hl
  refine lv_iload_n hx hb d_Mo_inPicture_0 rfl (lv_at hl 1 rfl) ?_
  refine lv_aload_n hx hb d_Mo_inPicture_1 rfl (lv_at hl 0 rfl) ?_
  refine va_get (D := (dC, dI)) (ci := 6) (v := .int (iZ fx)) (C := R_Mo) (T := T_Mo) (N := 18) hx hb hts wi_Mo hown hK hP 0 rfl rfl 10 (by decide) (hts _ t_694) (fun _ h9 => h9) rfl d_Mo_inPicture_2 ?_
  refine zi_sub hx hb d_Mo_inPicture_5 ?_
  refine zn_z (fun ci e_ci => ?_)
  refine lv_istore_n (lv' := [(3, .int (iZ ci)), (0, .ref hm), (1, .int (iZ px)), (2, .int (iZ py))]) hx hb d_Mo_inPicture_6 rfl hl (by decide) rfl (fun ls hl => ?_)
  refine lv_iload_n hx hb d_Mo_inPicture_7 rfl (lv_at hl 3 rfl) ?_
  refine lv_aload_n hx hb d_Mo_inPicture_8 rfl (lv_at hl 1 rfl) ?_
  refine va_get (D := (dC, dI)) (ci := 6) (v := .int (iZ fy)) (C := R_Mo) (T := T_Mo) (N := 18) hx hb hts wi_Mo hown hK hP 0 rfl rfl 11 (by decide) (hts _ t_695) (fun _ h9 => h9) rfl d_Mo_inPicture_9 ?_
  refine zi_sub hx hb d_Mo_inPicture_12 ?_
  refine zn_z (fun rj e_rj => ?_)
  refine lv_istore (lv' := [(4, .int (iZ rj)), (3, .int (iZ ci)), (0, .ref hm), (1, .int (iZ px)), (2, .int (iZ py))]) hx hb d_Mo_inPicture_13 hl (by decide) rfl (fun ls hl => ?_)
  refine lv_aload_n hx hb d_Mo_inPicture_15 rfl (lv_at hl 2 rfl) ?_
  refine va_get (D := (dC, dI)) (ci := 6) (v := .int (iZ fa)) (C := R_Mo) (T := T_Mo) (N := 18) hx hb hts wi_Mo hown hK hP 0 rfl rfl 12 (by decide) (hts _ t_696) (fun _ h9 => h9) rfl d_Mo_inPicture_16 ?_
  refine lv_bipush (v := iZ (7)) hx hb d_Mo_inPicture_19 (by decide) ?_
  refine zi_add hx hb d_Mo_inPicture_21 ?_
  refine lv_bipush (v := iZ (8)) hx hb d_Mo_inPicture_22 (by decide) ?_
  refine zi_div hx hb d_Mo_inPicture_24 (by omega) (by omega) (by omega) (by omega) ?_
  refine zn_z (fun rb e_rb => ?_)
  refine lv_istore (lv' := [(5, .int (iZ rb)), (4, .int (iZ rj)), (3, .int (iZ ci)), (0, .ref hm), (1, .int (iZ px)), (2, .int (iZ py))]) hx hb d_Mo_inPicture_25 hl (by decide) rfl (fun ls hl => ?_)
  have b9 : 0 ≤ n / rb ∧ n / rb ≤ n := ⟨Int.ediv_nonneg n1 (by omega), Int.ediv_le_self _ n1⟩
  unfold picB
  rw [← e_ci, ← e_rj, ← e_rb]
  refine lv_iload_n hx hb d_Mo_inPicture_27 rfl (lv_at hl 2 rfl) ?_
  refine zi_if_lt (tgt := 77) hx hb d_Mo_inPicture_28 (by decide) (by omega) (by omega) (fun c_28 => ?_) (fun c_28 => ?_)
  · refine lv_iconst (v := iZ (0)) hx hb d_Mo_inPicture_77 rfl ?_
    exact W.zret (ty := .boolean) hx hb hr (by decide) (fun t ht hW => ⟨_, rfl, by rw [decide_eq_false (show ¬ (0 ≤ ci ∧ ci < fa ∧ 0 ≤ rj ∧ rj < n / rb) by omega)]; rfl, ht⟩) (fun q h => nomatch h) d_Mo_inPicture_78
  · refine lv_iload_n hx hb d_Mo_inPicture_31 rfl (lv_at hl 2 rfl) ?_
    refine lv_aload_n hx hb d_Mo_inPicture_32 rfl (lv_at hl 3 rfl) ?_
    refine va_get (D := (dC, dI)) (ci := 6) (v := .int (iZ fa)) (C := R_Mo) (T := T_Mo) (N := 18) hx hb hts wi_Mo hown hK hP 0 rfl rfl 12 (by decide) (hts _ t_696) (fun _ h9 => h9) rfl d_Mo_inPicture_33 ?_
    refine zi_ge (tgt := 77) hx hb d_Mo_inPicture_36 (by decide) (by omega) (by omega) (by omega) (by omega) (fun c_36 => ?_) (fun c_36 => ?_)
    · refine lv_iconst (v := iZ (0)) hx hb d_Mo_inPicture_77 rfl ?_
      exact W.zret (ty := .boolean) hx hb hr (by decide) (fun t ht hW => ⟨_, rfl, by rw [decide_eq_false (show ¬ (0 ≤ ci ∧ ci < fa ∧ 0 ≤ rj ∧ rj < n / rb) by omega)]; rfl, ht⟩) (fun q h => nomatch h) d_Mo_inPicture_78
    · refine lv_iload hx hb d_Mo_inPicture_39 (lv_at hl 1 rfl) ?_
      refine zi_if_lt (tgt := 77) hx hb d_Mo_inPicture_41 (by decide) (by omega) (by omega) (fun c_41 => ?_) (fun c_41 => ?_)
      · refine lv_iconst (v := iZ (0)) hx hb d_Mo_inPicture_77 rfl ?_
        exact W.zret (ty := .boolean) hx hb hr (by decide) (fun t ht hW => ⟨_, rfl, by rw [decide_eq_false (show ¬ (0 ≤ ci ∧ ci < fa ∧ 0 ≤ rj ∧ rj < n / rb) by omega)]; rfl, ht⟩) (fun q h => nomatch h) d_Mo_inPicture_78
      · refine lv_iload hx hb d_Mo_inPicture_44 (lv_at hl 1 rfl) ?_
        refine lv_aload_n hx hb d_Mo_inPicture_46 rfl (lv_at hl 3 rfl) ?_
        refine va_get (D := (dC, dI)) (ci := 6) (v := .int (iZ n)) (C := R_Mo) (T := T_Mo) (N := 18) hx hb hts wi_Mo hown hK hP 0 rfl rfl 7 (by decide) (hts _ t_691) (fun _ h9 => h9) rfl d_Mo_inPicture_47 ?_
        refine lv_iload hx hb d_Mo_inPicture_50 (lv_at hl 0 rfl) ?_
        refine zi_div hx hb d_Mo_inPicture_52 (by omega) (by omega) (by omega) (by omega) ?_
        refine zi_ge (tgt := 77) hx hb d_Mo_inPicture_53 (by decide) (by omega) (by omega) (by omega) (by omega) (fun c_53 => ?_) (fun c_53 => ?_)
        · refine lv_iconst (v := iZ (0)) hx hb d_Mo_inPicture_77 rfl ?_
          exact W.zret (ty := .boolean) hx hb hr (by decide) (fun t ht hW => ⟨_, rfl, by rw [decide_eq_false (show ¬ (0 ≤ ci ∧ ci < fa ∧ 0 ≤ rj ∧ rj < n / rb) by omega)]; rfl, ht⟩) (fun q h => nomatch h) d_Mo_inPicture_78
        · have x9 := pc_in (fa := fa) (n := n) (r := rj) (c := ci) a1 (by omega) (by omega) (by omega) (by rw [← e_rb]; omega) n1
          rw [← e_rb] at x9
          refine lv_aload_n hx hb d_Mo_inPicture_56 rfl (lv_at hl 3 rfl) ?_
          refine lv_bipush (v := iZ (8)) hx hb d_Mo_inPicture_57 (by decide) ?_
          refine lv_iload hx hb d_Mo_inPicture_59 (lv_at hl 0 rfl) ?_
          refine zi_mul hx hb d_Mo_inPicture_61 ?_
          refine lv_iload hx hb d_Mo_inPicture_62 (lv_at hl 1 rfl) ?_
          refine zi_mul hx hb d_Mo_inPicture_64 ?_
          refine lv_iload_n hx hb d_Mo_inPicture_65 rfl (lv_at hl 2 rfl) ?_
          refine zi_add hx hb d_Mo_inPicture_66 ?_
          refine vp_callSi (va_runV (As := [.int (iZ (((8 * rb) * rj) + ci))]) (rest := []) ⟨hx, hb, hml, hown, hts⟩ (c_Model_bit l dC dI hm zd zb zt zs zc zo tw w h mn n fx fy fa fb fc qr fo cI Dt dr (((8 * rb) * rj) + ci) (by first | omega | assumption) (by first | omega | assumption) (by first | omega | assumption) (x9.1) (x9.2)) (cwV 1 hts (gV t_807 t_809 s_22 t_6 t_810) rfl rfl rfl (by decide +kernel) ⟨Nat.le_of_ble_eq_true rfl, Nat.le_of_ble_eq_true rfl⟩) ⟨zPr_blind, va_recv hK hP (ci := 6) (q0 := 0) rfl rfl, zPr_pre hP hK [0, 1] [0] rfl rfl⟩ rfl rfl hl.1 rfl (lv_room (Nat.le_of_ble_eq_true rfl)) d_Mo_inPicture_67 ⟨Nat.le_of_ble_eq_true rfl, Nat.le_of_ble_eq_true rfl⟩).run (fun r_67 q_67 => ?_)
          obtain rfl := q_67
          refine zb_if_eq (tgt := 77) hx hb d_Mo_inPicture_70 (by decide) (fun c_70 => ?_) (fun c_70 => ?_)
          · refine lv_iconst (v := iZ (0)) hx hb d_Mo_inPicture_77 rfl ?_
            exact W.zret (ty := .boolean) hx hb hr (by decide) (fun t ht hW => ⟨_, rfl, by rw [c_70, Bool.and_false]; rfl, ht⟩) (fun q h => nomatch h) d_Mo_inPicture_78
          · refine lv_iconst (v := iZ (1)) hx hb d_Mo_inPicture_73 rfl ?_
            refine lv_goto (tgt := 78) hx hb d_Mo_inPicture_74 (by decide) ?_
            exact W.zret (ty := .boolean) hx hb hr (by decide) (fun t ht hW => ⟨_, rfl, by rw [decide_eq_true (show 0 ≤ ci ∧ ci < fa ∧ 0 ≤ rj ∧ rj < n / rb by omega), c_70]; rfl, ht⟩) (fun q h => nomatch h) d_Mo_inPicture_78
