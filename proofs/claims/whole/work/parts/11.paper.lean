/-! the paper: words and their picture -/
def chg (mn : Int) (v m : Int64) : Int64 := if mn = 0 then v ||| m else if mn = 1 then v &&& (m ^^^ lZ (-1)) else v ^^^ m
theorem bz_chg (mn : Int) (v m : Int64) {k : Int} (k1 : 0 ≤ k) (k2 : k < 64) : bitZ (chg mn v m) k = if bitZ m k then flB mn (bitZ v k) else bitZ v k := by
  unfold chg flB
  split
  · rw [bz_or]; cases bitZ v k <;> cases bitZ m k <;> rfl
  · split
    · rw [bz_and, bz_xor, bz_m1 k1 k2]; cases bitZ v k <;> cases bitZ m k <;> rfl
    · rw [bz_xor]; cases bitZ v k <;> cases bitZ m k <;> rfl
theorem Rep_dark {G : Int → Int64} {pic : Int → Int → Bool} (h : Rep G pic) {x y : Int} (x1 : 0 ≤ x) (x2 : x < 1024) (y1 : 0 ≤ y) (y2 : y < 1024) : (G (y * 16 + x / 64) <<< ((iZ (x % 64)).toInt64 &&& 63)) < lZ 0 ↔ pic x y = true := by
  rw [show lZ 0 = 0 from rfl, bz_neg, bz_shl _ (by omega) (by omega) (by omega) (by omega), Int.zero_add, decide_eq_true (by omega), Bool.true_and, h x y x1 x2 y1 y2]
theorem mask_ok {col f t : Int} (c1 : 0 ≤ col) (c2 : col ≤ 15) (f1 : 0 ≤ f) (f2 : f ≤ 1023) (t1 : 0 ≤ t) (t2 : t ≤ 1023) (g1 : f ≤ col * 64 + 63) (g2 : col * 64 ≤ t) {a b : Int} (ha : a = max (f - col * 64) 0) (hb : b = min (t - col * 64) 63) :
    ∀ k : Int, 0 ≤ k → k < 64 → bitZ (((lZ (-1)).toUInt64 >>> ((iZ a).toInt64.toUInt64 &&& Int64.toUInt64 63)).toInt64 &&& (lZ (-1) <<< ((iZ (63 - b)).toInt64 &&& 63))) k = decide (f ≤ col * 64 + k ∧ col * 64 + k ≤ t) := by
  intro k k1 k2
  rw [bz_and, bz_ushr _ (by omega) (by omega) k1 k2, bz_shl _ (by omega) (by omega) k1 k2]
  by_cases p : a ≤ k
  · by_cases q : k + (63 - b) < 64
    · rw [bz_m1 (by omega) (by omega), bz_m1 (by omega) (by omega), decide_eq_true p, decide_eq_true q, decide_eq_true (show f ≤ col * 64 + k ∧ col * 64 + k ≤ t by omega)]; rfl
    · rw [decide_eq_false q, Bool.false_and, Bool.and_false, decide_eq_false (show ¬ (f ≤ col * 64 + k ∧ col * 64 + k ≤ t) by omega)]
  · rw [decide_eq_false p, Bool.false_and, Bool.false_and, decide_eq_false (show ¬ (f ≤ col * 64 + k ∧ col * 64 + k ≤ t) by omega)]
/-- one word of one row is changed -/
theorem Rep_chg {G : Int → Int64} {pic : Int → Int → Bool} {mn : Int} {S : Int → Int → Bool} (h : Rep G (drw mn S pic)) {row col : Int} (r1 : 0 ≤ row) (r2 : row < 1024) (c1 : 0 ≤ col) (c2 : col < 16) {m : Int64} {T : Int → Int → Bool}
    (hm : ∀ k : Int, 0 ≤ k → k < 64 → bitZ m k = T (col * 64 + k) row) (hT : ∀ x y, T x y = true → y = row ∧ x / 64 = col) (hd : ∀ x y, S x y = true → T x y = false) :
    Rep (upZ G (row * 16 + col) (chg mn (G (row * 16 + col)) m)) (drw mn (fun x y => S x y || T x y) pic) := by
  intro x y x1 x2 y1 y2
  have h9 := h x y x1 x2 y1 y2
  by_cases q : y * 16 + x / 64 = row * 16 + col
  · have e1 : y = row := by omega
    have e2 : x / 64 = col := by omega
    have e3 : col * 64 + x % 64 = x := by omega
    rw [q, upZ_s, bz_chg _ _ _ (by omega) (by omega), hm _ (by omega) (by omega), e3, ← q, h9, ← e1, ← drw_or (fun x y q => hd x y q)]
    rfl
  · rw [upZ_n _ _ q, h9]
    have : T x y = false := by
      cases ht : T x y
      · rfl
      · have := hT x y ht; exfalso; apply q; omega
    unfold drw; simp [this]
/-- how many dots of a box lie on the sheet -/
def boxN (w h l t r b : Int) : Int := if max l 0 > min r (w - 1) ∨ max t 0 > min b (h - 1) then 0 else (min r (w - 1) - max l 0 + 1) * (min b (h - 1) - max t 0 + 1)
theorem sR_const (c : Int) : ∀ n : Nat, sR (fun _ => c) n = n * c
  | 0 => by show (0 : Int) = ((0 : Nat) : Int) * c; omega
  | n + 1 => by
    show sR (fun _ => c) n + c = _
    rw [sR_const c n, show ((n + 1 : Nat) : Int) * c = (n : Int) * c + c by rw [Int.natCast_add, Int.add_mul]; omega]
theorem sR_iv (a b c : Int) : ∀ n : Nat, sR (fun y => if a ≤ y ∧ y ≤ b then c else 0) n = max 0 (min b (n - 1) - max a 0 + 1) * c
  | 0 => by show (0 : Int) = _; rw [show max 0 (min b (((0 : Nat) : Int) - 1) - max a 0 + 1) = 0 by omega, Int.zero_mul]
  | n + 1 => by
    show sR _ n + (if a ≤ (n : Int) ∧ (n : Int) ≤ b then c else 0) = _
    rw [sR_iv a b c n]
    by_cases h : a ≤ (n : Int) ∧ (n : Int) ≤ b
    · rw [if_pos h, show max 0 (min b (((n + 1 : Nat) : Int) - 1) - max a 0 + 1) = max 0 (min b ((n : Int) - 1) - max a 0 + 1) + 1 by omega, Int.add_mul, Int.one_mul]
    · rw [if_neg h, show max 0 (min b (((n + 1 : Nat) : Int) - 1) - max a 0 + 1) = max 0 (min b ((n : Int) - 1) - max a 0 + 1) by omega, Int.add_zero]
theorem boxN_cnt {w h : Int} (w1 : 1 ≤ w) (h1 : 1 ≤ h) (l t r b : Int) : boxN w h l t r b = cnt w h (bxB l t r b) := by
  have e : cnt w h (bxB l t r b) = sR (fun y => if t ≤ y ∧ y ≤ b then max 0 (min r (w - 1) - max l 0 + 1) else 0) h.toNat := by
    refine sR_ext (fun y _ _ => ?_)
    by_cases q : t ≤ y ∧ y ≤ b
    · rw [if_pos q]
      have := cR_iv l r w.toNat
      rw [show ((w.toNat : Nat) : Int) = w by omega] at this
      rw [← this]
      exact cR_ext (fun x _ _ => by unfold bxB; exact decide_eq_decide.mpr ⟨fun z => ⟨z.1, z.2.1⟩, fun z => ⟨z.1, z.2, q.1, q.2⟩⟩)
    · rw [if_neg q]
      exact cR_no (fun x _ _ => by unfold bxB; exact decide_eq_false (fun z => q ⟨z.2.2.1, z.2.2.2⟩))
  rw [e, sR_iv, show ((h.toNat : Nat) : Int) = h by omega]
  unfold boxN
  by_cases q : max l 0 > min r (w - 1) ∨ max t 0 > min b (h - 1)
  · rw [if_pos q]
    rcases q with q | q
    · rw [show max 0 (min r (w - 1) - max l 0 + 1) = 0 by omega, Int.mul_zero]
    · rw [show max 0 (min b (h - 1) - max t 0 + 1) = 0 by omega, Int.zero_mul]
  · rw [if_neg q, show max 0 (min r (w - 1) - max l 0 + 1) = min r (w - 1) - max l 0 + 1 by omega, show max 0 (min b (h - 1) - max t 0 + 1) = min b (h - 1) - max t 0 + 1 by omega, Int.mul_comm]
theorem boxN_in {w h : Int} (w1 : 1 ≤ w) (w2 : w ≤ 1024) (h1 : 1 ≤ h) (h2 : h ≤ 1024) (l t r b : Int) : 0 ≤ boxN w h l t r b ∧ boxN w h l t r b ≤ 1048576 := by
  rw [boxN_cnt w1 h1]; exact cnt_in _ (by omega) w2 (by omega) h2
/-- the part of a box that is drawn when column col has come to row row -/
def bxP (f la fr lr col row x y : Int) : Bool := decide (f ≤ x ∧ x ≤ la ∧ fr ≤ y ∧ y ≤ lr ∧ (x / 64 < col ∨ (x / 64 = col ∧ y < row)))
theorem bxP_row {f la fr lr col row : Int} (h : fr ≤ row) (h2 : row ≤ lr) (x y : Int) : (bxP f la fr lr col row x y || decide (y = row ∧ x / 64 = col ∧ f ≤ x ∧ x ≤ la)) = bxP f la fr lr col (row + 1) x y := by
  unfold bxP
  rw [← Bool.decide_or]
  exact decide_eq_decide.mpr (by omega)
theorem bxP_col {f la fr lr col row : Int} (h : lr < row) (x y : Int) : bxP f la fr lr col row x y = bxP f la fr lr (col + 1) fr x y := by
  unfold bxP
  exact decide_eq_decide.mpr (by omega)
theorem bxP_0 {f la fr lr col row : Int} (h : col = f / 64) (h2 : row = fr) (x y : Int) : bxP f la fr lr col row x y = false := by
  unfold bxP
  exact decide_eq_false (by omega)
theorem bxP_1 {w h l t r b col row : Int} (hc : min r (w - 1) / 64 < col) (x y : Int) : bxP (max l 0) (min r (w - 1)) (max t 0) (min b (h - 1)) col row x y = (onB w h x y && bxB l t r b x y) := by
  unfold bxP onB bxB
  rw [← Bool.decide_and]
  exact decide_eq_decide.mpr (by omega)
theorem d_Pa_has_0 : decode c_yPa_has 0 = .ok (.iload_n 1, 1) := by decide +kernel
theorem d_Pa_has_1 : decode c_yPa_has 1 = .ok (.ifCond .lt 27, 3) := by decide +kernel
theorem d_Pa_has_4 : decode c_yPa_has 4 = .ok (.iload_n 1, 1) := by decide +kernel
theorem d_Pa_has_5 : decode c_yPa_has 5 = .ok (.aload_n 0, 1) := by decide +kernel
theorem d_Pa_has_6 : decode c_yPa_has 6 = .ok (.getfield 11, 3) := by decide +kernel
theorem d_Pa_has_9 : decode c_yPa_has 9 = .ok (.if_icmp .ge 19, 3) := by decide +kernel
theorem d_Pa_has_12 : decode c_yPa_has 12 = .ok (.iload_n 2, 1) := by decide +kernel
theorem d_Pa_has_13 : decode c_yPa_has 13 = .ok (.ifCond .lt 15, 3) := by decide +kernel
theorem d_Pa_has_16 : decode c_yPa_has 16 = .ok (.iload_n 2, 1) := by decide +kernel
theorem d_Pa_has_17 : decode c_yPa_has 17 = .ok (.aload_n 0, 1) := by decide +kernel
theorem d_Pa_has_18 : decode c_yPa_has 18 = .ok (.getfield 15, 3) := by decide +kernel
theorem d_Pa_has_21 : decode c_yPa_has 21 = .ok (.if_icmp .ge 7, 3) := by decide +kernel
theorem d_Pa_has_24 : decode c_yPa_has 24 = .ok (.iconst 1, 1) := by decide +kernel
theorem d_Pa_has_25 : decode c_yPa_has 25 = .ok (.goto 4, 3) := by decide +kernel
theorem d_Pa_has_28 : decode c_yPa_has 28 = .ok (.iconst 0, 1) := by decide +kernel
theorem d_Pa_has_29 : decode c_yPa_has 29 = .ok (.ireturn, 1) := by decide +kernel
set_option maxHeartbeats 4000000 in
set_option maxRecDepth 100000 in
theorem c_Paper_has (l : Launch) (dC : Nat → ClassId) (dI : Nat → Nat → Nat) (hp hw hs hk : Nat) (w h mn x y : Int) (w1 : 1 ≤ w) (w2 : w ≤ 1024) (h1 : 1 ≤ h) (h2 : h ≤ 1024) (x1 : -2147483648 ≤ x) (y1 : -2147483648 ≤ y) (x2 : x ≤ 2147483647) (y2 : y ≤ 2147483647) : Met l y_Pa_has w_Pa_has ({ frames := 0, cells := 0, slots := 0, locals := 0 }) (va_Pc [.ref hp, .int (iZ x), .int (iZ y)] (zPr (dC, dI) vwCl [(hp, .inr (2, [.int (iZ w), .int (iZ h), .int (iZ mn), .ref hw, .ref hs, .ref hk]))] [])) (vp_Si (fun r => r = bI (onB w h x y))) 0 0 (fun _ => False) := by
  refine Met.ofW (cc := c_yPa_has) (maxL := 3) (ret := (some .boolean)) (by decide) rfl ?_
  intro p e s m args below meth c s₁ B hml hv
  obtain ⟨rfl, hP, hK⟩ := hv
  have hx := B.exec
  have hb := B.bytes
  have hr := B.returns
  have hts0 := atoms_spec (ws := w_Pa_has) B.pre
  have hts : ∀ w ∈ gT, w.before _ s = true := fun w h => hts0 w (List.mem_cons_of_mem _ h)
  have hown : s.vm.findClass R_Pa = some m.cls := findClass_of_methodNamed B.named
  have hlocks := B.notSynchronized
  have hl := lv_entry ([.ref hp, .int (iZ x), .int (iZ y)]) (n := 3) (Nat.le_of_ble_eq_true rfl)
  rw [lg_entry_eq]
  generalize (lg_sl ([.ref hp, .int (iZ x), .int (iZ y)]) ++ List.replicate (3 - (lg_sl ([.ref hp, .int (iZ x), .int (iZ y)])).length) Slot.unset).toArray = ls at hl ⊢
  have hl : lv_has ls 3 [(0, .ref hp), (1, .int (iZ x)), (2, .int (iZ y))] := hl
  refine lv_iload_n hx hb d_Pa_has_0 rfl (lv_at hl 1 rfl) ?_
  refine zi_if_lt (tgt := 28) hx hb d_Pa_has_1 (by decide) (by omega) (by omega) (fun c_1 => ?_) (fun c_1 => ?_)
  · refine lv_iconst (v := iZ (0)) hx hb d_Pa_has_28 rfl ?_
    exact W.zret (ty := .boolean) hx hb hr (by decide) (fun t ht hW => ⟨_, rfl, by rw [show onB w h x y = false from decide_eq_false (by omega)]; rfl, ht⟩) (fun q h => nomatch h) d_Pa_has_29
  · refine lv_iload_n hx hb d_Pa_has_4 rfl (lv_at hl 1 rfl) ?_
    refine lv_aload_n hx hb d_Pa_has_5 rfl (lv_at hl 0 rfl) ?_
    refine va_get (D := (dC, dI)) (ci := 2) (v := .int (iZ w)) (C := R_Pa) (T := T_Pa) (N := 6) hx hb hts wi_Pa hown hK hP 0 rfl rfl 0 (by decide) (hts _ t_33) (fun _ h9 => h9) rfl d_Pa_has_6 ?_
    refine zi_ge (tgt := 28) hx hb d_Pa_has_9 (by decide) (by omega) (by omega) (by omega) (by omega) (fun c_9 => ?_) (fun c_9 => ?_)
    · refine lv_iconst (v := iZ (0)) hx hb d_Pa_has_28 rfl ?_
      exact W.zret (ty := .boolean) hx hb hr (by decide) (fun t ht hW => ⟨_, rfl, by rw [show onB w h x y = false from decide_eq_false (by omega)]; rfl, ht⟩) (fun q h => nomatch h) d_Pa_has_29
    · refine lv_iload_n hx hb d_Pa_has_12 rfl (lv_at hl 2 rfl) ?_
      refine zi_if_lt (tgt := 28) hx hb d_Pa_has_13 (by decide) (by omega) (by omega) (fun c_13 => ?_) (fun c_13 => ?_)
      · refine lv_iconst (v := iZ (0)) hx hb d_Pa_has_28 rfl ?_
        exact W.zret (ty := .boolean) hx hb hr (by decide) (fun t ht hW => ⟨_, rfl, by rw [show onB w h x y = false from decide_eq_false (by omega)]; rfl, ht⟩) (fun q h => nomatch h) d_Pa_has_29
      · refine lv_iload_n hx hb d_Pa_has_16 rfl (lv_at hl 2 rfl) ?_
        refine lv_aload_n hx hb d_Pa_has_17 rfl (lv_at hl 0 rfl) ?_
        refine va_get (D := (dC, dI)) (ci := 2) (v := .int (iZ h)) (C := R_Pa) (T := T_Pa) (N := 6) hx hb hts wi_Pa hown hK hP 0 rfl rfl 1 (by decide) (hts _ t_35) (fun _ h9 => h9) rfl d_Pa_has_18 ?_
        refine zi_ge (tgt := 28) hx hb d_Pa_has_21 (by decide) (by omega) (by omega) (by omega) (by omega) (fun c_21 => ?_) (fun c_21 => ?_)
        · refine lv_iconst (v := iZ (0)) hx hb d_Pa_has_28 rfl ?_
          exact W.zret (ty := .boolean) hx hb hr (by decide) (fun t ht hW => ⟨_, rfl, by rw [show onB w h x y = false from decide_eq_false (by omega)]; rfl, ht⟩) (fun q h => nomatch h) d_Pa_has_29
        · refine lv_iconst (v := iZ (1)) hx hb d_Pa_has_24 rfl ?_
          refine lv_goto (tgt := 29) hx hb d_Pa_has_25 (by decide) ?_
          exact W.zret (ty := .boolean) hx hb hr (by decide) (fun t ht hW => ⟨_, rfl, by rw [show onB w h x y = true from decide_eq_true (by omega)]; rfl, ht⟩) (fun q h => nomatch h) d_Pa_has_29
theorem d_Pa_isDark_0 : decode c_yPa_isDark 0 = .ok (.aload_n 0, 1) := by decide +kernel
theorem d_Pa_isDark_1 : decode c_yPa_isDark 1 = .ok (.iload_n 1, 1) := by decide +kernel
theorem d_Pa_isDark_2 : decode c_yPa_isDark 2 = .ok (.iload_n 2, 1) := by decide +kernel
theorem d_Pa_isDark_3 : decode c_yPa_isDark 3 = .ok (.invokevirtual 37, 3) := by decide +kernel
theorem d_Pa_isDark_6 : decode c_yPa_isDark 6 = .ok (.ifCond .eq 31, 3) := by decide +kernel
theorem d_Pa_isDark_9 : decode c_yPa_isDark 9 = .ok (.aload_n 0, 1) := by decide +kernel
theorem d_Pa_isDark_10 : decode c_yPa_isDark 10 = .ok (.getfield 21, 3) := by decide +kernel
theorem d_Pa_isDark_13 : decode c_yPa_isDark 13 = .ok (.iload_n 2, 1) := by decide +kernel
theorem d_Pa_isDark_14 : decode c_yPa_isDark 14 = .ok (.bipush 16, 2) := by decide +kernel
theorem d_Pa_isDark_16 : decode c_yPa_isDark 16 = .ok (.imul, 1) := by decide +kernel
theorem d_Pa_isDark_17 : decode c_yPa_isDark 17 = .ok (.iload_n 1, 1) := by decide +kernel
theorem d_Pa_isDark_18 : decode c_yPa_isDark 18 = .ok (.bipush 64, 2) := by decide +kernel
theorem d_Pa_isDark_20 : decode c_yPa_isDark 20 = .ok (.idiv, 1) := by decide +kernel
theorem d_Pa_isDark_21 : decode c_yPa_isDark 21 = .ok (.iadd, 1) := by decide +kernel
theorem d_Pa_isDark_22 : decode c_yPa_isDark 22 = .ok (.laload, 1) := by decide +kernel
theorem d_Pa_isDark_23 : decode c_yPa_isDark 23 = .ok (.iload_n 1, 1) := by decide +kernel
theorem d_Pa_isDark_24 : decode c_yPa_isDark 24 = .ok (.bipush 64, 2) := by decide +kernel
theorem d_Pa_isDark_26 : decode c_yPa_isDark 26 = .ok (.irem, 1) := by decide +kernel
theorem d_Pa_isDark_27 : decode c_yPa_isDark 27 = .ok (.lshl, 1) := by decide +kernel
theorem d_Pa_isDark_28 : decode c_yPa_isDark 28 = .ok (.lconst 0, 1) := by decide +kernel
theorem d_Pa_isDark_29 : decode c_yPa_isDark 29 = .ok (.lcmp, 1) := by decide +kernel
theorem d_Pa_isDark_30 : decode c_yPa_isDark 30 = .ok (.ifCond .ge 7, 3) := by decide +kernel
theorem d_Pa_isDark_33 : decode c_yPa_isDark 33 = .ok (.iconst 1, 1) := by decide +kernel
theorem d_Pa_isDark_34 : decode c_yPa_isDark 34 = .ok (.goto 4, 3) := by decide +kernel
theorem d_Pa_isDark_37 : decode c_yPa_isDark 37 = .ok (.iconst 0, 1) := by decide +kernel
theorem d_Pa_isDark_38 : decode c_yPa_isDark 38 = .ok (.ireturn, 1) := by decide +kernel
set_option maxHeartbeats 4000000 in
set_option maxRecDepth 100000 in
theorem c_Paper_isDark (l : Launch) (dC : Nat → ClassId) (dI : Nat → Nat → Nat) (hp hw hs hk : Nat) (cL : ClassId) (w h mn : Int) (G : Int → Int64) (pic : Int → Int → Bool) (x y : Int) (w1 : 1 ≤ w) (w2 : w ≤ 1024) (h1 : 1 ≤ h) (h2 : h ≤ 1024) (hR : Rep G pic) (hO : Off w h pic) (x1 : -2147483648 ≤ x) (y1 : -2147483648 ≤ y) (x2 : x ≤ 2147483647) (y2 : y ≤ 2147483647) : Met l y_Pa_isDark w_Pa_isDark ({ frames := 1, cells := 0, slots := 0, locals := 22 }) (va_Pc [.ref hp, .int (iZ x), .int (iZ y)] (zPr (dC, dI) vwCl [(hp, .inr (2, [.int (iZ w), .int (iZ h), .int (iZ mn), .ref hw, .ref hs, .ref hk])), (hw, .inl (cL, 16384, .inr (.inl (aL G))))] [(cL, .long)])) (vp_Si (fun r => r = bI (pic x y))) 0 0 (fun _ => False) := by
  refine Met.ofW (cc := c_yPa_isDark) (maxL := 3) (ret := (some .boolean)) (by decide) rfl ?_
  intro p e s m args below meth c s₁ B hml hv
  obtain ⟨rfl, hP, hK⟩ := hv
  have hx := B.exec
  have hb := B.bytes
  have hr := B.returns
  have hts0 := atoms_spec (ws := w_Pa_isDark) B.pre
  have hts : ∀ w ∈ gT, w.before _ s = true := fun w h => hts0 w (List.mem_cons_of_mem _ h)
  have hown : s.vm.findClass R_Pa = some m.cls := findClass_of_methodNamed B.named
  have hlocks := B.notSynchronized
  have hl := lv_entry ([.ref hp, .int (iZ x), .int (iZ y)]) (n := 3) (Nat.le_of_ble_eq_true rfl)
  rw [lg_entry_eq]
  generalize (lg_sl ([.ref hp, .int (iZ x), .int (iZ y)]) ++ List.replicate (3 - (lg_sl ([.ref hp, .int (iZ x), .int (iZ y)])).length) Slot.unset).toArray = ls at hl ⊢
  have hl : lv_has ls 3 [(0, .ref hp), (1, .int (iZ x)), (2, .int (iZ y))] := hl
  refine lv_aload_n hx hb d_Pa_isDark_0 rfl (lv_at hl 0 rfl) ?_
  refine lv_iload_n hx hb d_Pa_isDark_1 rfl (lv_at hl 1 rfl) ?_
  refine lv_iload_n hx hb d_Pa_isDark_2 rfl (lv_at hl 2 rfl) ?_
  refine vp_callSi (va_runV (As := [.int (iZ x), .int (iZ y)]) (rest := []) ⟨hx, hb, hml, hown, hts⟩ (c_Paper_has l dC dI hp hw hs hk w h mn x y (by first | omega | assumption) (by first | omega | assumption) (by first | omega | assumption) (by first | omega | assumption) (by first | omega | assumption) (by first | omega | assumption) (by first | omega | assumption) (by first | omega | assumption)) (cwV 2 hts (gV t_651 t_652 t_653 t_2 t_654) rfl rfl rfl (by decide +kernel) ⟨Nat.le_of_ble_eq_true rfl, Nat.le_of_ble_eq_true rfl⟩) ⟨zPr_blind, va_recv hK hP (ci := 2) (q0 := 0) rfl rfl, zPr_pre hP hK [0] [] rfl rfl⟩ rfl rfl hl.1 rfl (lv_room (Nat.le_of_ble_eq_true rfl)) d_Pa_isDark_3 ⟨Nat.le_of_ble_eq_true rfl, Nat.le_of_ble_eq_true rfl⟩).run (fun r_3 q_3 => ?_)
  obtain rfl := q_3
  refine zb_if_eq (tgt := 37) hx hb d_Pa_isDark_6 (by decide) (fun c_6 => ?_) (fun c_6 => ?_)
  · have c_6 := of_decide_eq_false c_6
    refine lv_iconst (v := iZ (0)) hx hb d_Pa_isDark_37 rfl ?_
    exact W.zret (ty := .boolean) hx hb hr (by decide) (fun t ht hW => ⟨_, rfl, by rw [hO x y (decide_eq_false c_6)]; rfl, ht⟩) (fun q h => nomatch h) d_Pa_isDark_38
  · have c_6 := of_decide_eq_true c_6
    refine lv_aload_n hx hb d_Pa_isDark_9 rfl (lv_at hl 0 rfl) ?_
    refine va_get (D := (dC, dI)) (ci := 2) (v := .ref hw) (C := R_Pa) (T := T_Pa) (N := 6) hx hb hts wi_Pa hown hK hP 0 rfl rfl 3 (by decide) (hts _ t_39) (fun _ h9 => h9) rfl d_Pa_isDark_10 ?_
    refine lv_iload_n hx hb d_Pa_isDark_13 rfl (lv_at hl 2 rfl) ?_
    refine lv_bipush (v := iZ (16)) hx hb d_Pa_isDark_14 (by decide) ?_
    refine zi_mul hx hb d_Pa_isDark_16 ?_
    refine lv_iload_n hx hb d_Pa_isDark_17 rfl (lv_at hl 1 rfl) ?_
    refine lv_bipush (v := iZ (64)) hx hb d_Pa_isDark_18 (by decide) ?_
    refine zi_div hx hb d_Pa_isDark_20 (by omega) (by omega) (by omega) (by omega) ?_
    refine zi_add hx hb d_Pa_isDark_21 ?_
    refine z_lald hx hb hK hP 1 0 rfl rfl (by omega) (by omega) (by omega) d_Pa_isDark_22 ?_
    refine lv_iload_n hx hb d_Pa_isDark_23 rfl (lv_at hl 1 rfl) ?_
    refine lv_bipush (v := iZ (64)) hx hb d_Pa_isDark_24 (by decide) ?_
    refine zi_rem hx hb d_Pa_isDark_26 (by omega) (by omega) (by omega) (by omega) ?_
    refine lv_lshl hx hb d_Pa_isDark_27 rfl ?_
    have d9 := Rep_dark hR (x := x) (y := y) (by omega) (by omega) (by omega) (by omega)
    refine lv_lconst (v := lZ 0) hx hb d_Pa_isDark_28 (by decide) ?_
    refine zr_ge (tgt := 37) hx hb d_Pa_isDark_29 d_Pa_isDark_30 (by decide) (fun c_29 => ?_) (fun c_29 => ?_)
    · refine lv_iconst (v := iZ (0)) hx hb d_Pa_isDark_37 rfl ?_
      exact W.zret (ty := .boolean) hx hb hr (by decide) (fun t ht hW => ⟨_, rfl, by rw [show pic x y = false from Bool.eq_false_iff.mpr (fun q => c_29 (d9.mpr q))]; rfl, ht⟩) (fun q h => nomatch h) d_Pa_isDark_38
    · refine lv_iconst (v := iZ (1)) hx hb d_Pa_isDark_33 rfl ?_
      refine lv_goto (tgt := 38) hx hb d_Pa_isDark_34 (by decide) ?_
      exact W.zret (ty := .boolean) hx hb hr (by decide) (fun t ht hW => ⟨_, rfl, by rw [d9.mp c_29]; rfl, ht⟩) (fun q h => nomatch h) d_Pa_isDark_38
theorem d_Pa_touches_0 : decode c_yPa_touches 0 = .ok (.iload_n 1, 1) := by decide +kernel
theorem d_Pa_touches_1 : decode c_yPa_touches 1 = .ok (.aload_n 0, 1) := by decide +kernel
theorem d_Pa_touches_2 : decode c_yPa_touches 2 = .ok (.getfield 11, 3) := by decide +kernel
theorem d_Pa_touches_5 : decode c_yPa_touches 5 = .ok (.if_icmp .ge 24, 3) := by decide +kernel
theorem d_Pa_touches_8 : decode c_yPa_touches 8 = .ok (.iload_n 2, 1) := by decide +kernel
theorem d_Pa_touches_9 : decode c_yPa_touches 9 = .ok (.aload_n 0, 1) := by decide +kernel
theorem d_Pa_touches_10 : decode c_yPa_touches 10 = .ok (.getfield 15, 3) := by decide +kernel
theorem d_Pa_touches_13 : decode c_yPa_touches 13 = .ok (.if_icmp .ge 16, 3) := by decide +kernel
theorem d_Pa_touches_16 : decode c_yPa_touches 16 = .ok (.iload_n 3, 1) := by decide +kernel
theorem d_Pa_touches_17 : decode c_yPa_touches 17 = .ok (.ifCond .lt 12, 3) := by decide +kernel
theorem d_Pa_touches_20 : decode c_yPa_touches 20 = .ok (.iload 4, 2) := by decide +kernel
theorem d_Pa_touches_22 : decode c_yPa_touches 22 = .ok (.ifCond .lt 7, 3) := by decide +kernel
theorem d_Pa_touches_25 : decode c_yPa_touches 25 = .ok (.iconst 1, 1) := by decide +kernel
theorem d_Pa_touches_26 : decode c_yPa_touches 26 = .ok (.goto 4, 3) := by decide +kernel
theorem d_Pa_touches_29 : decode c_yPa_touches 29 = .ok (.iconst 0, 1) := by decide +kernel
theorem d_Pa_touches_30 : decode c_yPa_touches 30 = .ok (.ireturn, 1) := by decide +kernel
set_option maxHeartbeats 4000000 in
set_option maxRecDepth 100000 in
theorem c_Paper_touches (l : Launch) (dC : Nat → ClassId) (dI : Nat → Nat → Nat) (hp hw hs hk : Nat) (w h mn lf tp rt bt : Int) (w1 : 1 ≤ w) (w2 : w ≤ 1024) (h1 : 1 ≤ h) (h2 : h ≤ 1024) (lf1 : -2147483648 ≤ lf) (tp1 : -2147483648 ≤ tp) (rt1 : -2147483648 ≤ rt) (bt1 : -2147483648 ≤ bt) (lf2 : lf ≤ 2147483647) (tp2 : tp ≤ 2147483647) (rt2 : rt ≤ 2147483647) (bt2 : bt ≤ 2147483647) : Met l y_Pa_touches w_Pa_touches ({ frames := 0, cells := 0, slots := 0, locals := 0 }) (va_Pc [.ref hp, .int (iZ lf), .int (iZ tp), .int (iZ rt), .int (iZ bt)] (zPr (dC, dI) vwCl [(hp, .inr (2, [.int (iZ w), .int (iZ h), .int (iZ mn), .ref hw, .ref hs, .ref hk]))] [])) (vp_Si (fun r => r = bI (decide (lf < w ∧ tp < h ∧ 0 ≤ rt ∧ 0 ≤ bt)))) 0 0 (fun _ => False) := by
  refine Met.ofW (cc := c_yPa_touches) (maxL := 5) (ret := (some .boolean)) (by decide) rfl ?_
  intro p e s m args below meth c s₁ B hml hv
  obtain ⟨rfl, hP, hK⟩ := hv
  have hx := B.exec
  have hb := B.bytes
  have hr := B.returns
  have hts0 := atoms_spec (ws := w_Pa_touches) B.pre
  have hts : ∀ w ∈ gT, w.before _ s = true := fun w h => hts0 w (List.mem_cons_of_mem _ h)
  have hown : s.vm.findClass R_Pa = some m.cls := findClass_of_methodNamed B.named
  have hlocks := B.notSynchronized
  have hl := lv_entry ([.ref hp, .int (iZ lf), .int (iZ tp), .int (iZ rt), .int (iZ bt)]) (n := 5) (Nat.le_of_ble_eq_true rfl)
  rw [lg_entry_eq]
  generalize (lg_sl ([.ref hp, .int (iZ lf), .int (iZ tp), .int (iZ rt), .int (iZ bt)]) ++ List.replicate (5 - (lg_sl ([.ref hp, .int (iZ lf), .int (iZ tp), .int (iZ rt), .int (iZ bt)])).length) Slot.unset).toArray = ls at hl ⊢
  have hl : lv_has ls 5 [(0, .ref hp), (1, .int (iZ lf)), (2, .int (iZ tp)), (3, .int (iZ rt)), (4, .int (iZ bt))] := hl
  refine lv_iload_n hx hb d_Pa_touches_0 rfl (lv_at hl 1 rfl) ?_
  refine lv_aload_n hx hb d_Pa_touches_1 rfl (lv_at hl 0 rfl) ?_
  refine va_get (D := (dC, dI)) (ci := 2) (v := .int (iZ w)) (C := R_Pa) (T := T_Pa) (N := 6) hx hb hts wi_Pa hown hK hP 0 rfl rfl 0 (by decide) (hts _ t_33) (fun _ h9 => h9) rfl d_Pa_touches_2 ?_
  refine zi_ge (tgt := 29) hx hb d_Pa_touches_5 (by decide) (by omega) (by omega) (by omega) (by omega) (fun c_5 => ?_) (fun c_5 => ?_)
  · refine lv_iconst (v := iZ (0)) hx hb d_Pa_touches_29 rfl ?_
    exact W.zret (ty := .boolean) hx hb hr (by decide) (fun t ht hW => ⟨_, rfl, by rw [show decide (lf < w ∧ tp < h ∧ 0 ≤ rt ∧ 0 ≤ bt) = false from decide_eq_false (by omega)]; rfl, ht⟩) (fun q h => nomatch h) d_Pa_touches_30
  · refine lv_iload_n hx hb d_Pa_touches_8 rfl (lv_at hl 2 rfl) ?_
    refine lv_aload_n hx hb d_Pa_touches_9 rfl (lv_at hl 0 rfl) ?_
    refine va_get (D := (dC, dI)) (ci := 2) (v := .int (iZ h)) (C := R_Pa) (T := T_Pa) (N := 6) hx hb hts wi_Pa hown hK hP 0 rfl rfl 1 (by decide) (hts _ t_35) (fun _ h9 => h9) rfl d_Pa_touches_10 ?_
    refine zi_ge (tgt := 29) hx hb d_Pa_touches_13 (by decide) (by omega) (by omega) (by omega) (by omega) (fun c_13 => ?_) (fun c_13 => ?_)
    · refine lv_iconst (v := iZ (0)) hx hb d_Pa_touches_29 rfl ?_
      exact W.zret (ty := .boolean) hx hb hr (by decide) (fun t ht hW => ⟨_, rfl, by rw [show decide (lf < w ∧ tp < h ∧ 0 ≤ rt ∧ 0 ≤ bt) = false from decide_eq_false (by omega)]; rfl, ht⟩) (fun q h => nomatch h) d_Pa_touches_30
    · refine lv_iload_n hx hb d_Pa_touches_16 rfl (lv_at hl 3 rfl) ?_
      refine zi_if_lt (tgt := 29) hx hb d_Pa_touches_17 (by decide) (by omega) (by omega) (fun c_17 => ?_) (fun c_17 => ?_)
      · refine lv_iconst (v := iZ (0)) hx hb d_Pa_touches_29 rfl ?_
        exact W.zret (ty := .boolean) hx hb hr (by decide) (fun t ht hW => ⟨_, rfl, by rw [show decide (lf < w ∧ tp < h ∧ 0 ≤ rt ∧ 0 ≤ bt) = false from decide_eq_false (by omega)]; rfl, ht⟩) (fun q h => nomatch h) d_Pa_touches_30
      · refine lv_iload hx hb d_Pa_touches_20 (lv_at hl 4 rfl) ?_
        refine zi_if_lt (tgt := 29) hx hb d_Pa_touches_22 (by decide) (by omega) (by omega) (fun c_22 => ?_) (fun c_22 => ?_)
        · refine lv_iconst (v := iZ (0)) hx hb d_Pa_touches_29 rfl ?_
          exact W.zret (ty := .boolean) hx hb hr (by decide) (fun t ht hW => ⟨_, rfl, by rw [show decide (lf < w ∧ tp < h ∧ 0 ≤ rt ∧ 0 ≤ bt) = false from decide_eq_false (by omega)]; rfl, ht⟩) (fun q h => nomatch h) d_Pa_touches_30
        · refine lv_iconst (v := iZ (1)) hx hb d_Pa_touches_25 rfl ?_
          refine lv_goto (tgt := 30) hx hb d_Pa_touches_26 (by decide) ?_
          exact W.zret (ty := .boolean) hx hb hr (by decide) (fun t ht hW => ⟨_, rfl, by rw [show decide (lf < w ∧ tp < h ∧ 0 ≤ rt ∧ 0 ≤ bt) = true from decide_eq_true (by omega)]; rfl, ht⟩) (fun q h => nomatch h) d_Pa_touches_30
theorem d_Pa_change_0 : decode c_yPa_change 0 = .ok (.aload_n 0, 1) := by decide +kernel
theorem d_Pa_change_1 : decode c_yPa_change 1 = .ok (.getfield 18, 3) := by decide +kernel
theorem d_Pa_change_4 : decode c_yPa_change 4 = .ok (.ifCond .ne 16, 3) := by decide +kernel
theorem d_Pa_change_7 : decode c_yPa_change 7 = .ok (.aload_n 0, 1) := by decide +kernel
theorem d_Pa_change_8 : decode c_yPa_change 8 = .ok (.getfield 21, 3) := by decide +kernel
theorem d_Pa_change_11 : decode c_yPa_change 11 = .ok (.iload_n 1, 1) := by decide +kernel
theorem d_Pa_change_12 : decode c_yPa_change 12 = .ok (.dup2, 1) := by decide +kernel
theorem d_Pa_change_13 : decode c_yPa_change 13 = .ok (.laload, 1) := by decide +kernel
theorem d_Pa_change_14 : decode c_yPa_change 14 = .ok (.lload_n 2, 1) := by decide +kernel
theorem d_Pa_change_15 : decode c_yPa_change 15 = .ok (.lor, 1) := by decide +kernel
theorem d_Pa_change_16 : decode c_yPa_change 16 = .ok (.lastore, 1) := by decide +kernel
theorem d_Pa_change_17 : decode c_yPa_change 17 = .ok (.goto 38, 3) := by decide +kernel
theorem d_Pa_change_20 : decode c_yPa_change 20 = .ok (.aload_n 0, 1) := by decide +kernel
theorem d_Pa_change_21 : decode c_yPa_change 21 = .ok (.getfield 18, 3) := by decide +kernel
theorem d_Pa_change_24 : decode c_yPa_change 24 = .ok (.iconst 1, 1) := by decide +kernel
theorem d_Pa_change_25 : decode c_yPa_change 25 = .ok (.if_icmp .ne 20, 3) := by decide +kernel
theorem d_Pa_change_28 : decode c_yPa_change 28 = .ok (.aload_n 0, 1) := by decide +kernel
theorem d_Pa_change_29 : decode c_yPa_change 29 = .ok (.getfield 21, 3) := by decide +kernel
theorem d_Pa_change_32 : decode c_yPa_change 32 = .ok (.iload_n 1, 1) := by decide +kernel
theorem d_Pa_change_33 : decode c_yPa_change 33 = .ok (.dup2, 1) := by decide +kernel
theorem d_Pa_change_34 : decode c_yPa_change 34 = .ok (.laload, 1) := by decide +kernel
theorem d_Pa_change_35 : decode c_yPa_change 35 = .ok (.lload_n 2, 1) := by decide +kernel
theorem d_Pa_change_36 : decode c_yPa_change 36 = .ok (.ldc2_w 99, 3) := by decide +kernel
theorem d_Pa_change_39 : decode c_yPa_change 39 = .ok (.lxor, 1) := by decide +kernel
theorem d_Pa_change_40 : decode c_yPa_change 40 = .ok (.land, 1) := by decide +kernel
theorem d_Pa_change_41 : decode c_yPa_change 41 = .ok (.lastore, 1) := by decide +kernel
theorem d_Pa_change_42 : decode c_yPa_change 42 = .ok (.goto 13, 3) := by decide +kernel
theorem d_Pa_change_45 : decode c_yPa_change 45 = .ok (.aload_n 0, 1) := by decide +kernel
theorem d_Pa_change_46 : decode c_yPa_change 46 = .ok (.getfield 21, 3) := by decide +kernel
theorem d_Pa_change_49 : decode c_yPa_change 49 = .ok (.iload_n 1, 1) := by decide +kernel
theorem d_Pa_change_50 : decode c_yPa_change 50 = .ok (.dup2, 1) := by decide +kernel
theorem d_Pa_change_51 : decode c_yPa_change 51 = .ok (.laload, 1) := by decide +kernel
theorem d_Pa_change_52 : decode c_yPa_change 52 = .ok (.lload_n 2, 1) := by decide +kernel
theorem d_Pa_change_53 : decode c_yPa_change 53 = .ok (.lxor, 1) := by decide +kernel
theorem d_Pa_change_54 : decode c_yPa_change 54 = .ok (.lastore, 1) := by decide +kernel
theorem d_Pa_change_55 : decode c_yPa_change 55 = .ok (.return_, 1) := by decide +kernel
set_option maxHeartbeats 4000000 in
set_option maxRecDepth 100000 in
theorem c_Paper_change (l : Launch) (dC : Nat → ClassId) (dI : Nat → Nat → Nat) (hp hw hs hk : Nat) (cL : ClassId) (w h mn : Int) (G : Int → Int64) (i : Int) (mk : Int64) (sz : Nat) (mn1 : 0 ≤ mn) (mn2 : mn ≤ 2) (i1 : 0 ≤ i) (i2 : i < 16384) : Met l y_Pa_change w_Pa_change ({ frames := 0, cells := 0, slots := 0, locals := 0 }) (va_Pc [.ref hp, .int (iZ i), .long mk] (zPm (dC, dI) vwCl [(hp, .inr (2, [.int (iZ w), .int (iZ h), .int (iZ mn), .ref hw, .ref hs, .ref hk])), (hw, .inl (cL, 16384, .inr (.inl (aL G))))] [(cL, .long)] sz)) (va_Qv (fun (u : Int → Int64) => u = upZ G i (chg mn (G i) mk)) (fun u => zB (dC, dI) vwCl [(cL, .long)] (va_A [(hp, .inr (2, [.int (iZ w), .int (iZ h), .int (iZ mn), .ref hw, .ref hs, .ref hk])), (hw, .inl (cL, 16384, .inr (.inl (aL G))))] sz) [(hp, .inr (2, [.int (iZ w), .int (iZ h), .int (iZ mn), .ref hw, .ref hs, .ref hk])), (hw, .inl (cL, 16384, .inr (.inl (aL u))))]) (va_A [(hp, .inr (2, [.int (iZ w), .int (iZ h), .int (iZ mn), .ref hw, .ref hs, .ref hk])), (hw, .inl (cL, 16384, .inr (.inl (aL G))))] sz)) 0 0 (va_A [(hp, .inr (2, [.int (iZ w), .int (iZ h), .int (iZ mn), .ref hw, .ref hs, .ref hk])), (hw, .inl (cL, 16384, .inr (.inl (aL G))))] sz) := by
  refine Met.ofW (cc := c_yPa_change) (maxL := 4) (ret := none) (by decide) rfl ?_
  intro p e s m args below meth c s₁ B hml hv
  obtain ⟨rfl, hsz, hP, hK, hD0⟩ := hv
  have hx := B.exec
  have hb := B.bytes
  have hr := B.returns
  have hts0 := atoms_spec (ws := w_Pa_change) B.pre
  have hts : ∀ w ∈ gT, w.before _ s = true := fun w h => hts0 w (List.mem_cons_of_mem _ h)
  have hown : s.vm.findClass R_Pa = some m.cls := findClass_of_methodNamed B.named
  have hlocks := B.notSynchronized
  subst hsz
  have hD := hD0.self (sz := s.heap.size)
  generalize hAe : va_A [(hp, .inr (2, [.int (iZ w), .int (iZ h), .int (iZ mn), .ref hw, .ref hs, .ref hk])), (hw, .inl (cL, 16384, .inr (.inl (aL G))))] s.heap.size = A at hD ⊢
  have hA : ∀ q : Nat, s.heap.size ≤ q → A q := fun q h => by rw [← hAe]; exact Or.inr h
  obtain ⟨H, hH⟩ : ∃ H, s.heap = H := ⟨_, rfl⟩
  have hS : va_S A s.heap H [] := by rw [← hH]; exact va_S.rf
  rw [hH] at hP
  rw [hH]
  have hl := lv_entry ([.ref hp, .int (iZ i), .long mk]) (n := 4) (Nat.le_of_ble_eq_true rfl)
  rw [lg_entry_eq]
  generalize (lg_sl ([.ref hp, .int (iZ i), .long mk]) ++ List.replicate (4 - (lg_sl ([.ref hp, .int (iZ i), .long mk])).length) Slot.unset).toArray = ls at hl ⊢
  have hl : lv_has ls 4 [(0, .ref hp), (1, .int (iZ i)), (2, .long mk)] := hl
  refine lv_aload_n hx hb d_Pa_change_0 rfl (lv_at hl 0 rfl) ?_
  refine va_get (D := (dC, dI)) (ci := 2) (v := .int (iZ mn)) (C := R_Pa) (T := T_Pa) (N := 6) hx hb hts wi_Pa hown hK hP 0 rfl rfl 2 (by decide) (hts _ t_37) (fun _ h9 => h9) rfl d_Pa_change_1 ?_
  refine zi_if_ne (tgt := 20) hx hb d_Pa_change_4 (by decide) (by omega) (by omega) (fun c_4 => ?_) (fun c_4 => ?_)
  · refine lv_aload_n hx hb d_Pa_change_20 rfl (lv_at hl 0 rfl) ?_
    refine va_get (D := (dC, dI)) (ci := 2) (v := .int (iZ mn)) (C := R_Pa) (T := T_Pa) (N := 6) hx hb hts wi_Pa hown hK hP 0 rfl rfl 2 (by decide) (hts _ t_37) (fun _ h9 => h9) rfl d_Pa_change_21 ?_
    refine lv_iconst (v := iZ (1)) hx hb d_Pa_change_24 rfl ?_
    refine zi_ne (tgt := 45) hx hb d_Pa_change_25 (by decide) (by omega) (by omega) (by omega) (by omega) (fun c_25 => ?_) (fun c_25 => ?_)
    · refine lv_aload_n hx hb d_Pa_change_45 rfl (lv_at hl 0 rfl) ?_
      refine va_get (D := (dC, dI)) (ci := 2) (v := .ref hw) (C := R_Pa) (T := T_Pa) (N := 6) hx hb hts wi_Pa hown hK hP 0 rfl rfl 3 (by decide) (hts _ t_39) (fun _ h9 => h9) rfl d_Pa_change_46 ?_
      refine lv_iload_n hx hb d_Pa_change_49 rfl (lv_at hl 1 rfl) ?_
      refine lv_dup2_11 hx hb d_Pa_change_50 rfl rfl ?_
      refine z_lald hx hb hK hP 1 0 rfl rfl (by omega) (by omega) (by omega) d_Pa_change_51 ?_
      refine lv_lload_n hx hb d_Pa_change_52 rfl (lv_at hl 2 rfl) ?_
      refine lv_lxor hx hb d_Pa_change_53 ?_
      refine z_last hx hb hK hP hD hS 1 0 rfl rfl (by omega) (by omega) (by omega) d_Pa_change_54 (fun H locs hP hD hS => ?_)
      have hP : va_P (dC, dI) vwCl [(hp, .inr (2, [.int (iZ w), .int (iZ h), .int (iZ mn), .ref hw, .ref hs, .ref hk])), (hw, .inl (cL, 16384, .inr (.inl (aL (upZ G i ((G i) ^^^ mk))))))] H := hP
      have hD : va_D A [(hp, .inr (2, [.int (iZ w), .int (iZ h), .int (iZ mn), .ref hw, .ref hs, .ref hk])), (hw, .inl (cL, 16384, .inr (.inl (aL (upZ G i ((G i) ^^^ mk))))))] := hD
      exact W.vret hx hb hr (fun t ht hW => ⟨⟨(upZ G i ((G i) ^^^ mk)), rfl, by unfold chg; rw [if_neg (by omega), if_neg (by omega)], by rw [ht]; exact hP, va_K.moved hW.alike hK, hD⟩, hS.F ht⟩) hS.2.2 d_Pa_change_55
    · refine lv_aload_n hx hb d_Pa_change_28 rfl (lv_at hl 0 rfl) ?_
      refine va_get (D := (dC, dI)) (ci := 2) (v := .ref hw) (C := R_Pa) (T := T_Pa) (N := 6) hx hb hts wi_Pa hown hK hP 0 rfl rfl 3 (by decide) (hts _ t_39) (fun _ h9 => h9) rfl d_Pa_change_29 ?_
      refine lv_iload_n hx hb d_Pa_change_32 rfl (lv_at hl 1 rfl) ?_
      refine lv_dup2_11 hx hb d_Pa_change_33 rfl rfl ?_
      refine z_lald hx hb hK hP 1 0 rfl rfl (by omega) (by omega) (by omega) d_Pa_change_34 ?_
      refine lv_lload_n hx hb d_Pa_change_35 rfl (lv_at hl 2 rfl) ?_
      refine lv_ldc2 (v := lZ (-1)) hx hb hown (hts _ t_287) d_Pa_change_36 ?_
      refine lv_lxor hx hb d_Pa_change_39 ?_
      refine lv_land hx hb d_Pa_change_40 ?_
      refine z_last hx hb hK hP hD hS 1 0 rfl rfl (by omega) (by omega) (by omega) d_Pa_change_41 (fun H locs hP hD hS => ?_)
      have hP : va_P (dC, dI) vwCl [(hp, .inr (2, [.int (iZ w), .int (iZ h), .int (iZ mn), .ref hw, .ref hs, .ref hk])), (hw, .inl (cL, 16384, .inr (.inl (aL (upZ G i ((G i) &&& (mk ^^^ (lZ (-1)))))))))] H := hP
      have hD : va_D A [(hp, .inr (2, [.int (iZ w), .int (iZ h), .int (iZ mn), .ref hw, .ref hs, .ref hk])), (hw, .inl (cL, 16384, .inr (.inl (aL (upZ G i ((G i) &&& (mk ^^^ (lZ (-1)))))))))] := hD
      refine lv_goto (tgt := 55) hx hb d_Pa_change_42 (by decide) ?_
      exact W.vret hx hb hr (fun t ht hW => ⟨⟨(upZ G i ((G i) &&& (mk ^^^ (lZ (-1))))), rfl, by unfold chg; rw [if_neg (by omega), if_pos (by omega)], by rw [ht]; exact hP, va_K.moved hW.alike hK, hD⟩, hS.F ht⟩) hS.2.2 d_Pa_change_55
  · refine lv_aload_n hx hb d_Pa_change_7 rfl (lv_at hl 0 rfl) ?_
    refine va_get (D := (dC, dI)) (ci := 2) (v := .ref hw) (C := R_Pa) (T := T_Pa) (N := 6) hx hb hts wi_Pa hown hK hP 0 rfl rfl 3 (by decide) (hts _ t_39) (fun _ h9 => h9) rfl d_Pa_change_8 ?_
    refine lv_iload_n hx hb d_Pa_change_11 rfl (lv_at hl 1 rfl) ?_
    refine lv_dup2_11 hx hb d_Pa_change_12 rfl rfl ?_
    refine z_lald hx hb hK hP 1 0 rfl rfl (by omega) (by omega) (by omega) d_Pa_change_13 ?_
    refine lv_lload_n hx hb d_Pa_change_14 rfl (lv_at hl 2 rfl) ?_
    refine lv_lor hx hb d_Pa_change_15 ?_
    refine z_last hx hb hK hP hD hS 1 0 rfl rfl (by omega) (by omega) (by omega) d_Pa_change_16 (fun H locs hP hD hS => ?_)
    have hP : va_P (dC, dI) vwCl [(hp, .inr (2, [.int (iZ w), .int (iZ h), .int (iZ mn), .ref hw, .ref hs, .ref hk])), (hw, .inl (cL, 16384, .inr (.inl (aL (upZ G i ((G i) ||| mk))))))] H := hP
    have hD : va_D A [(hp, .inr (2, [.int (iZ w), .int (iZ h), .int (iZ mn), .ref hw, .ref hs, .ref hk])), (hw, .inl (cL, 16384, .inr (.inl (aL (upZ G i ((G i) ||| mk))))))] := hD
    refine lv_goto (tgt := 55) hx hb d_Pa_change_17 (by decide) ?_
    exact W.vret hx hb hr (fun t ht hW => ⟨⟨(upZ G i ((G i) ||| mk)), rfl, by unfold chg; rw [if_pos (by omega)], by rw [ht]; exact hP, va_K.moved hW.alike hK, hD⟩, hS.F ht⟩) hS.2.2 d_Pa_change_55
theorem d_Pa_maskOf_0 : decode c_yPa_maskOf 0 = .ok (.iload_n 1, 1) := by decide +kernel
theorem d_Pa_maskOf_1 : decode c_yPa_maskOf 1 = .ok (.iload_n 0, 1) := by decide +kernel
theorem d_Pa_maskOf_2 : decode c_yPa_maskOf 2 = .ok (.bipush 64, 2) := by decide +kernel
theorem d_Pa_maskOf_4 : decode c_yPa_maskOf 4 = .ok (.imul, 1) := by decide +kernel
theorem d_Pa_maskOf_5 : decode c_yPa_maskOf 5 = .ok (.isub, 1) := by decide +kernel
theorem d_Pa_maskOf_6 : decode c_yPa_maskOf 6 = .ok (.iconst 0, 1) := by decide +kernel
theorem d_Pa_maskOf_7 : decode c_yPa_maskOf 7 = .ok (.invokestatic 41, 3) := by decide +kernel
theorem d_Pa_maskOf_10 : decode c_yPa_maskOf 10 = .ok (.istore_n 3, 1) := by decide +kernel
theorem d_Pa_maskOf_11 : decode c_yPa_maskOf 11 = .ok (.iload_n 2, 1) := by decide +kernel
theorem d_Pa_maskOf_12 : decode c_yPa_maskOf 12 = .ok (.iload_n 0, 1) := by decide +kernel
theorem d_Pa_maskOf_13 : decode c_yPa_maskOf 13 = .ok (.bipush 64, 2) := by decide +kernel
theorem d_Pa_maskOf_15 : decode c_yPa_maskOf 15 = .ok (.imul, 1) := by decide +kernel
theorem d_Pa_maskOf_16 : decode c_yPa_maskOf 16 = .ok (.isub, 1) := by decide +kernel
theorem d_Pa_maskOf_17 : decode c_yPa_maskOf 17 = .ok (.bipush 63, 2) := by decide +kernel
theorem d_Pa_maskOf_19 : decode c_yPa_maskOf 19 = .ok (.invokestatic 47, 3) := by decide +kernel
theorem d_Pa_maskOf_22 : decode c_yPa_maskOf 22 = .ok (.istore 4, 2) := by decide +kernel
theorem d_Pa_maskOf_24 : decode c_yPa_maskOf 24 = .ok (.ldc2_w 99, 3) := by decide +kernel
theorem d_Pa_maskOf_27 : decode c_yPa_maskOf 27 = .ok (.iload_n 3, 1) := by decide +kernel
theorem d_Pa_maskOf_28 : decode c_yPa_maskOf 28 = .ok (.lushr, 1) := by decide +kernel
theorem d_Pa_maskOf_29 : decode c_yPa_maskOf 29 = .ok (.ldc2_w 99, 3) := by decide +kernel
theorem d_Pa_maskOf_32 : decode c_yPa_maskOf 32 = .ok (.bipush 63, 2) := by decide +kernel
theorem d_Pa_maskOf_34 : decode c_yPa_maskOf 34 = .ok (.iload 4, 2) := by decide +kernel
theorem d_Pa_maskOf_36 : decode c_yPa_maskOf 36 = .ok (.isub, 1) := by decide +kernel
theorem d_Pa_maskOf_37 : decode c_yPa_maskOf 37 = .ok (.lshl, 1) := by decide +kernel
theorem d_Pa_maskOf_38 : decode c_yPa_maskOf 38 = .ok (.land, 1) := by decide +kernel
theorem d_Pa_maskOf_39 : decode c_yPa_maskOf 39 = .ok (.lreturn, 1) := by decide +kernel
set_option maxHeartbeats 4000000 in
set_option maxRecDepth 100000 in
theorem c_Paper_maskOf (l : Launch) (dC : Nat → ClassId) (dI : Nat → Nat → Nat) (col f t : Int) (c1 : 0 ≤ col) (c2 : col ≤ 15) (f1 : 0 ≤ f) (f2 : f ≤ 1023) (t1 : 0 ≤ t) (t2 : t ≤ 1023) (g1 : f ≤ col * 64 + 63) (g2 : col * 64 ≤ t) : Met l y_Pa_maskOf w_Pa_maskOf ({ frames := 1, cells := 0, slots := 0, locals := 21 }) (va_Pc [.int (iZ col), .int (iZ f), .int (iZ t)] (zPr (dC, dI) vwCl [] [])) (vp_Sl (fun r => ∀ k : Int, 0 ≤ k → k < 64 → bitZ r k = decide (f ≤ col * 64 + k ∧ col * 64 + k ≤ t))) 0 0 (fun _ => False) := by
  refine Met.ofW (cc := c_yPa_maskOf) (maxL := 5) (ret := (some .long)) (by decide) rfl ?_
  intro p e s m args below meth c s₁ B hml hv
  obtain ⟨rfl, hP, hK⟩ := hv
  have hx := B.exec
  have hb := B.bytes
  have hr := B.returns
  have hts0 := atoms_spec (ws := w_Pa_maskOf) B.pre
  have hts : ∀ w ∈ gT, w.before _ s = true := fun w h => hts0 w (List.mem_cons_of_mem _ h)
  have hown : s.vm.findClass R_Pa = some m.cls := findClass_of_methodNamed B.named
  have hlocks := B.notSynchronized
  have hl := lv_entry ([.int (iZ col), .int (iZ f), .int (iZ t)]) (n := 5) (Nat.le_of_ble_eq_true rfl)
  rw [lg_entry_eq]
  generalize (lg_sl ([.int (iZ col), .int (iZ f), .int (iZ t)]) ++ List.replicate (5 - (lg_sl ([.int (iZ col), .int (iZ f), .int (iZ t)])).length) Slot.unset).toArray = ls at hl ⊢
  have hl : lv_has ls 5 [(0, .int (iZ col)), (1, .int (iZ f)), (2, .int (iZ t))] := hl
  refine lv_iload_n hx hb d_Pa_maskOf_0 rfl (lv_at hl 1 rfl) ?_
  refine lv_iload_n hx hb d_Pa_maskOf_1 rfl (lv_at hl 0 rfl) ?_
  refine lv_bipush (v := iZ (64)) hx hb d_Pa_maskOf_2 (by decide) ?_
  refine zi_mul hx hb d_Pa_maskOf_4 ?_
  refine zi_sub hx hb d_Pa_maskOf_5 ?_
  refine lv_iconst (v := iZ (0)) hx hb d_Pa_maskOf_6 rfl ?_
  refine vp_callSi (va_runS (As := [.int (iZ (f - (col * 64))), .int (iZ 0)]) (rest := []) ⟨hx, hb, hml, hown, hts⟩ (c_Math_maxi l dC dI (f - (col * 64)) 0 (by first | omega | assumption) (by first | omega | assumption) (by first | omega | assumption) (by first | omega | assumption)) (va_cwS 2 hts (gS t_282 t_269 t_12 t_270) rfl rfl rfl (by decide +kernel) ⟨Nat.le_of_ble_eq_true rfl, Nat.le_of_ble_eq_true rfl⟩) ⟨zPr_blind, zPr_pre hP hK [] [] rfl rfl⟩ rfl rfl hl.1 rfl (lv_room (Nat.le_of_ble_eq_true rfl)) d_Pa_maskOf_7 ⟨Nat.le_of_ble_eq_true rfl, Nat.le_of_ble_eq_true rfl⟩).run (fun r_7 q_7 => ?_)
  obtain rfl := q_7
  refine zn_z (fun a e_a => ?_)
  refine lv_istore_n (lv' := [(3, .int (iZ a)), (0, .int (iZ col)), (1, .int (iZ f)), (2, .int (iZ t))]) hx hb d_Pa_maskOf_10 rfl hl (by decide) rfl (fun ls hl => ?_)
  refine lv_iload_n hx hb d_Pa_maskOf_11 rfl (lv_at hl 3 rfl) ?_
  refine lv_iload_n hx hb d_Pa_maskOf_12 rfl (lv_at hl 1 rfl) ?_
  refine lv_bipush (v := iZ (64)) hx hb d_Pa_maskOf_13 (by decide) ?_
  refine zi_mul hx hb d_Pa_maskOf_15 ?_
  refine zi_sub hx hb d_Pa_maskOf_16 ?_
  refine lv_bipush (v := iZ (63)) hx hb d_Pa_maskOf_17 (by decide) ?_
  refine vp_callSi (va_runS (As := [.int (iZ (t - (col * 64))), .int (iZ 63)]) (rest := []) ⟨hx, hb, hml, hown, hts⟩ (c_Math_mini l dC dI (t - (col * 64)) 63 (by first | omega | assumption) (by first | omega | assumption) (by first | omega | assumption) (by first | omega | assumption)) (va_cwS 2 hts (gS t_283 t_272 t_12 t_273) rfl rfl rfl (by decide +kernel) ⟨Nat.le_of_ble_eq_true rfl, Nat.le_of_ble_eq_true rfl⟩) ⟨zPr_blind, zPr_pre hP hK [] [] rfl rfl⟩ rfl rfl hl.1 rfl (lv_room (Nat.le_of_ble_eq_true rfl)) d_Pa_maskOf_19 ⟨Nat.le_of_ble_eq_true rfl, Nat.le_of_ble_eq_true rfl⟩).run (fun r_19 q_19 => ?_)
  obtain rfl := q_19
  refine zn_z (fun b e_b => ?_)
  refine lv_istore (lv' := [(4, .int (iZ b)), (3, .int (iZ a)), (0, .int (iZ col)), (1, .int (iZ f)), (2, .int (iZ t))]) hx hb d_Pa_maskOf_22 hl (by decide) rfl (fun ls hl => ?_)
  refine lv_ldc2 (v := lZ (-1)) hx hb hown (hts _ t_287) d_Pa_maskOf_24 ?_
  refine lv_iload_n hx hb d_Pa_maskOf_27 rfl (lv_at hl 1 rfl) ?_
  refine lv_lushr hx hb d_Pa_maskOf_28 rfl ?_
  refine lv_ldc2 (v := lZ (-1)) hx hb hown (hts _ t_287) d_Pa_maskOf_29 ?_
  refine lv_bipush (v := iZ (63)) hx hb d_Pa_maskOf_32 (by decide) ?_
  refine lv_iload hx hb d_Pa_maskOf_34 (lv_at hl 0 rfl) ?_
  refine zi_sub hx hb d_Pa_maskOf_36 ?_
  refine lv_lshl hx hb d_Pa_maskOf_37 rfl ?_
  refine lv_land hx hb d_Pa_maskOf_38 ?_
  exact W.lret hx hb hr (fun t ht hW => ⟨_, rfl, mask_ok c1 c2 f1 f2 t1 t2 g1 g2 e_a e_b, ht⟩) (fun q h => nomatch h) d_Pa_maskOf_39
theorem d_Pa_drawBox_0 : decode c_yPa_drawBox 0 = .ok (.iload_n 1, 1) := by decide +kernel
theorem d_Pa_drawBox_1 : decode c_yPa_drawBox 1 = .ok (.iconst 0, 1) := by decide +kernel
theorem d_Pa_drawBox_2 : decode c_yPa_drawBox 2 = .ok (.invokestatic 41, 3) := by decide +kernel
theorem d_Pa_drawBox_5 : decode c_yPa_drawBox 5 = .ok (.istore 5, 2) := by decide +kernel
theorem d_Pa_drawBox_7 : decode c_yPa_drawBox 7 = .ok (.iload_n 3, 1) := by decide +kernel
theorem d_Pa_drawBox_8 : decode c_yPa_drawBox 8 = .ok (.aload_n 0, 1) := by decide +kernel
theorem d_Pa_drawBox_9 : decode c_yPa_drawBox 9 = .ok (.getfield 11, 3) := by decide +kernel
theorem d_Pa_drawBox_12 : decode c_yPa_drawBox 12 = .ok (.iconst 1, 1) := by decide +kernel
theorem d_Pa_drawBox_13 : decode c_yPa_drawBox 13 = .ok (.isub, 1) := by decide +kernel
theorem d_Pa_drawBox_14 : decode c_yPa_drawBox 14 = .ok (.invokestatic 47, 3) := by decide +kernel
theorem d_Pa_drawBox_17 : decode c_yPa_drawBox 17 = .ok (.istore 6, 2) := by decide +kernel
theorem d_Pa_drawBox_19 : decode c_yPa_drawBox 19 = .ok (.iload_n 2, 1) := by decide +kernel
theorem d_Pa_drawBox_20 : decode c_yPa_drawBox 20 = .ok (.iconst 0, 1) := by decide +kernel
theorem d_Pa_drawBox_21 : decode c_yPa_drawBox 21 = .ok (.invokestatic 41, 3) := by decide +kernel
theorem d_Pa_drawBox_24 : decode c_yPa_drawBox 24 = .ok (.istore 7, 2) := by decide +kernel
theorem d_Pa_drawBox_26 : decode c_yPa_drawBox 26 = .ok (.iload 4, 2) := by decide +kernel
theorem d_Pa_drawBox_28 : decode c_yPa_drawBox 28 = .ok (.aload_n 0, 1) := by decide +kernel
theorem d_Pa_drawBox_29 : decode c_yPa_drawBox 29 = .ok (.getfield 15, 3) := by decide +kernel
theorem d_Pa_drawBox_32 : decode c_yPa_drawBox 32 = .ok (.iconst 1, 1) := by decide +kernel
theorem d_Pa_drawBox_33 : decode c_yPa_drawBox 33 = .ok (.isub, 1) := by decide +kernel
theorem d_Pa_drawBox_34 : decode c_yPa_drawBox 34 = .ok (.invokestatic 47, 3) := by decide +kernel
theorem d_Pa_drawBox_37 : decode c_yPa_drawBox 37 = .ok (.istore 8, 2) := by decide +kernel
theorem d_Pa_drawBox_39 : decode c_yPa_drawBox 39 = .ok (.iload 5, 2) := by decide +kernel
theorem d_Pa_drawBox_41 : decode c_yPa_drawBox 41 = .ok (.iload 6, 2) := by decide +kernel
theorem d_Pa_drawBox_43 : decode c_yPa_drawBox 43 = .ok (.if_icmp .gt 10, 3) := by decide +kernel
theorem d_Pa_drawBox_46 : decode c_yPa_drawBox 46 = .ok (.iload 7, 2) := by decide +kernel
theorem d_Pa_drawBox_48 : decode c_yPa_drawBox 48 = .ok (.iload 8, 2) := by decide +kernel
theorem d_Pa_drawBox_50 : decode c_yPa_drawBox 50 = .ok (.if_icmp .le 5, 3) := by decide +kernel
theorem d_Pa_drawBox_53 : decode c_yPa_drawBox 53 = .ok (.iconst 0, 1) := by decide +kernel
theorem d_Pa_drawBox_54 : decode c_yPa_drawBox 54 = .ok (.ireturn, 1) := by decide +kernel
theorem d_Pa_drawBox_55 : decode c_yPa_drawBox 55 = .ok (.iload 5, 2) := by decide +kernel
theorem d_Pa_drawBox_57 : decode c_yPa_drawBox 57 = .ok (.bipush 64, 2) := by decide +kernel
theorem d_Pa_drawBox_59 : decode c_yPa_drawBox 59 = .ok (.idiv, 1) := by decide +kernel
theorem d_Pa_drawBox_60 : decode c_yPa_drawBox 60 = .ok (.istore 9, 2) := by decide +kernel
theorem d_Pa_drawBox_62 : decode c_yPa_drawBox 62 = .ok (.iload 9, 2) := by decide +kernel
theorem d_Pa_drawBox_64 : decode c_yPa_drawBox 64 = .ok (.iload 6, 2) := by decide +kernel
theorem d_Pa_drawBox_66 : decode c_yPa_drawBox 66 = .ok (.bipush 64, 2) := by decide +kernel
theorem d_Pa_drawBox_68 : decode c_yPa_drawBox 68 = .ok (.idiv, 1) := by decide +kernel
theorem d_Pa_drawBox_69 : decode c_yPa_drawBox 69 = .ok (.if_icmp .gt 51, 3) := by decide +kernel
theorem d_Pa_drawBox_72 : decode c_yPa_drawBox 72 = .ok (.iload 9, 2) := by decide +kernel
theorem d_Pa_drawBox_74 : decode c_yPa_drawBox 74 = .ok (.iload 5, 2) := by decide +kernel
theorem d_Pa_drawBox_76 : decode c_yPa_drawBox 76 = .ok (.iload 6, 2) := by decide +kernel
theorem d_Pa_drawBox_78 : decode c_yPa_drawBox 78 = .ok (.invokestatic 50, 3) := by decide +kernel
theorem d_Pa_drawBox_81 : decode c_yPa_drawBox 81 = .ok (.lstore 10, 2) := by decide +kernel
theorem d_Pa_drawBox_83 : decode c_yPa_drawBox 83 = .ok (.iload 7, 2) := by decide +kernel
theorem d_Pa_drawBox_85 : decode c_yPa_drawBox 85 = .ok (.istore 12, 2) := by decide +kernel
theorem d_Pa_drawBox_87 : decode c_yPa_drawBox 87 = .ok (.iload 12, 2) := by decide +kernel
theorem d_Pa_drawBox_89 : decode c_yPa_drawBox 89 = .ok (.iload 8, 2) := by decide +kernel
theorem d_Pa_drawBox_91 : decode c_yPa_drawBox 91 = .ok (.if_icmp .gt 23, 3) := by decide +kernel
theorem d_Pa_drawBox_94 : decode c_yPa_drawBox 94 = .ok (.aload_n 0, 1) := by decide +kernel
theorem d_Pa_drawBox_95 : decode c_yPa_drawBox 95 = .ok (.iload 12, 2) := by decide +kernel
theorem d_Pa_drawBox_97 : decode c_yPa_drawBox 97 = .ok (.bipush 16, 2) := by decide +kernel
theorem d_Pa_drawBox_99 : decode c_yPa_drawBox 99 = .ok (.imul, 1) := by decide +kernel
theorem d_Pa_drawBox_100 : decode c_yPa_drawBox 100 = .ok (.iload 9, 2) := by decide +kernel
theorem d_Pa_drawBox_102 : decode c_yPa_drawBox 102 = .ok (.iadd, 1) := by decide +kernel
theorem d_Pa_drawBox_103 : decode c_yPa_drawBox 103 = .ok (.lload 10, 2) := by decide +kernel
theorem d_Pa_drawBox_105 : decode c_yPa_drawBox 105 = .ok (.invokevirtual 54, 3) := by decide +kernel
theorem d_Pa_drawBox_108 : decode c_yPa_drawBox 108 = .ok (.iinc 12 1, 3) := by decide +kernel
theorem d_Pa_drawBox_111 : decode c_yPa_drawBox 111 = .ok (.goto (-24), 3) := by decide +kernel
theorem d_Pa_drawBox_114 : decode c_yPa_drawBox 114 = .ok (.iinc 9 1, 3) := by decide +kernel
theorem d_Pa_drawBox_117 : decode c_yPa_drawBox 117 = .ok (.goto (-55), 3) := by decide +kernel
theorem d_Pa_drawBox_120 : decode c_yPa_drawBox 120 = .ok (.iload 6, 2) := by decide +kernel
theorem d_Pa_drawBox_122 : decode c_yPa_drawBox 122 = .ok (.iload 5, 2) := by decide +kernel
theorem d_Pa_drawBox_124 : decode c_yPa_drawBox 124 = .ok (.isub, 1) := by decide +kernel
theorem d_Pa_drawBox_125 : decode c_yPa_drawBox 125 = .ok (.iconst 1, 1) := by decide +kernel
theorem d_Pa_drawBox_126 : decode c_yPa_drawBox 126 = .ok (.iadd, 1) := by decide +kernel
theorem d_Pa_drawBox_127 : decode c_yPa_drawBox 127 = .ok (.iload 8, 2) := by decide +kernel
theorem d_Pa_drawBox_129 : decode c_yPa_drawBox 129 = .ok (.iload 7, 2) := by decide +kernel
theorem d_Pa_drawBox_131 : decode c_yPa_drawBox 131 = .ok (.isub, 1) := by decide +kernel
theorem d_Pa_drawBox_132 : decode c_yPa_drawBox 132 = .ok (.iconst 1, 1) := by decide +kernel
theorem d_Pa_drawBox_133 : decode c_yPa_drawBox 133 = .ok (.iadd, 1) := by decide +kernel
theorem d_Pa_drawBox_134 : decode c_yPa_drawBox 134 = .ok (.imul, 1) := by decide +kernel
theorem d_Pa_drawBox_135 : decode c_yPa_drawBox 135 = .ok (.ireturn, 1) := by decide +kernel
set_option maxHeartbeats 4000000 in
set_option maxRecDepth 100000 in
theorem c_Paper_drawBox (l : Launch) (dC : Nat → ClassId) (dI : Nat → Nat → Nat) (hp hw hs hk : Nat) (cL : ClassId) (w h mn : Int) (G : Int → Int64) (pic : Int → Int → Bool) (lf tp rt bt : Int) (sz : Nat) (w1 : 1 ≤ w) (w2 : w ≤ 1024) (h1 : 1 ≤ h) (h2 : h ≤ 1024) (mn1 : 0 ≤ mn) (mn2 : mn ≤ 2) (lf1 : -1073741824 ≤ lf) (tp1 : -1073741824 ≤ tp) (rt1 : -1073741824 ≤ rt) (bt1 : -1073741824 ≤ bt) (lf2 : lf ≤ 1073741824) (tp2 : tp ≤ 1073741824) (rt2 : rt ≤ 1073741824) (bt2 : bt ≤ 1073741824) (hR : Rep G pic) : Met l y_Pa_drawBox w_Pa_drawBox ({ frames := 2, cells := 0, slots := 0, locals := 45 }) (va_Pc [.ref hp, .int (iZ lf), .int (iZ tp), .int (iZ rt), .int (iZ bt)] (zPm (dC, dI) vwCl [(hp, .inr (2, [.int (iZ w), .int (iZ h), .int (iZ mn), .ref hw, .ref hs, .ref hk])), (hw, .inl (cL, 16384, .inr (.inl (aL G))))] [(cL, .long)] sz)) (va_Qi (fun (r : Int32) (u : Int → Int64) => r = iZ (boxN w h lf tp rt bt) ∧ Rep u (drw mn (fun x y => onB w h x y && bxB lf tp rt bt x y) pic)) (fun u => zB (dC, dI) vwCl [(cL, .long)] (va_A [(hp, .inr (2, [.int (iZ w), .int (iZ h), .int (iZ mn), .ref hw, .ref hs, .ref hk])), (hw, .inl (cL, 16384, .inr (.inl (aL G))))] sz) [(hp, .inr (2, [.int (iZ w), .int (iZ h), .int (iZ mn), .ref hw, .ref hs, .ref hk])), (hw, .inl (cL, 16384, .inr (.inl (aL u))))]) (va_A [(hp, .inr (2, [.int (iZ w), .int (iZ h), .int (iZ mn), .ref hw, .ref hs, .ref hk])), (hw, .inl (cL, 16384, .inr (.inl (aL G))))] sz)) 0 0 (va_A [(hp, .inr (2, [.int (iZ w), .int (iZ h), .int (iZ mn), .ref hw, .ref hs, .ref hk])), (hw, .inl (cL, 16384, .inr (.inl (aL G))))] sz) := by
  refine Met.ofW (cc := c_yPa_drawBox) (maxL := 13) (ret := (some .int)) (by decide) rfl ?_
  intro p e s m args below meth c s₁ B hml hv
  obtain ⟨rfl, hsz, hP, hK, hD0⟩ := hv
  have hx := B.exec
  have hb := B.bytes
  have hr := B.returns
  have hts0 := atoms_spec (ws := w_Pa_drawBox) B.pre
  have hts : ∀ w ∈ gT, w.before _ s = true := fun w h => hts0 w (List.mem_cons_of_mem _ h)
  have hown : s.vm.findClass R_Pa = some m.cls := findClass_of_methodNamed B.named
  have hlocks := B.notSynchronized
  subst hsz
  have hD := hD0.self (sz := s.heap.size)
  generalize hAe : va_A [(hp, .inr (2, [.int (iZ w), .int (iZ h), .int (iZ mn), .ref hw, .ref hs, .ref hk])), (hw, .inl (cL, 16384, .inr (.inl (aL G))))] s.heap.size = A at hD ⊢
  have hA : ∀ q : Nat, s.heap.size ≤ q → A q := fun q h => by rw [← hAe]; exact Or.inr h
  obtain ⟨H, hH⟩ : ∃ H, s.heap = H := ⟨_, rfl⟩
  have hS : va_S A s.heap H [] := by rw [← hH]; exact va_S.rf
  rw [hH] at hP
  rw [hH]
  have hl := lv_entry ([.ref hp, .int (iZ lf), .int (iZ tp), .int (iZ rt), .int (iZ bt)]) (n := 13) (Nat.le_of_ble_eq_true rfl)
  rw [lg_entry_eq]
  generalize (lg_sl ([.ref hp, .int (iZ lf), .int (iZ tp), .int (iZ rt), .int (iZ bt)]) ++ List.replicate (13 - (lg_sl ([.ref hp, .int (iZ lf), .int (iZ tp), .int (iZ rt), .int (iZ bt)])).length) Slot.unset).toArray = ls at hl ⊢
  have hl : lv_has ls 13 [(0, .ref hp), (1, .int (iZ lf)), (2, .int (iZ tp)), (3, .int (iZ rt)), (4, .int (iZ bt))] := hl
  refine lv_iload_n hx hb d_Pa_drawBox_0 rfl (lv_at hl 1 rfl) ?_
  refine lv_iconst (v := iZ (0)) hx hb d_Pa_drawBox_1 rfl ?_
  refine vp_callSi (va_runS (As := [.int (iZ lf), .int (iZ 0)]) (rest := []) ⟨hx, hb, hml, hown, hts⟩ (c_Math_maxi l dC dI lf 0 (by first | omega | assumption) (by first | omega | assumption) (by first | omega | assumption) (by first | omega | assumption)) (va_cwS 2 hts (gS t_282 t_269 t_12 t_270) rfl rfl rfl (by decide +kernel) ⟨Nat.le_of_ble_eq_true rfl, Nat.le_of_ble_eq_true rfl⟩) ⟨zPr_blind, zPr_pre hP hK [] [] rfl rfl⟩ rfl rfl hl.1 rfl (lv_room (Nat.le_of_ble_eq_true rfl)) d_Pa_drawBox_2 ⟨Nat.le_of_ble_eq_true rfl, Nat.le_of_ble_eq_true rfl⟩).run (fun r_2 q_2 => ?_)
  obtain rfl := q_2
  refine zn_z (fun fi e_fi => ?_)
  refine lv_istore (lv' := [(5, .int (iZ fi)), (0, .ref hp), (1, .int (iZ lf)), (2, .int (iZ tp)), (3, .int (iZ rt)), (4, .int (iZ bt))]) hx hb d_Pa_drawBox_5 hl (by decide) rfl (fun ls hl => ?_)
  refine lv_iload_n hx hb d_Pa_drawBox_7 rfl (lv_at hl 4 rfl) ?_
  refine lv_aload_n hx hb d_Pa_drawBox_8 rfl (lv_at hl 1 rfl) ?_
  refine va_get (D := (dC, dI)) (ci := 2) (v := .int (iZ w)) (C := R_Pa) (T := T_Pa) (N := 6) hx hb hts wi_Pa hown hK hP 0 rfl rfl 0 (by decide) (hts _ t_33) (fun _ h9 => h9) rfl d_Pa_drawBox_9 ?_
  refine lv_iconst (v := iZ (1)) hx hb d_Pa_drawBox_12 rfl ?_
  refine zi_sub hx hb d_Pa_drawBox_13 ?_
  refine vp_callSi (va_runS (As := [.int (iZ rt), .int (iZ (w - 1))]) (rest := []) ⟨hx, hb, hml, hown, hts⟩ (c_Math_mini l dC dI rt (w - 1) (by first | omega | assumption) (by first | omega | assumption) (by first | omega | assumption) (by first | omega | assumption)) (va_cwS 2 hts (gS t_283 t_272 t_12 t_273) rfl rfl rfl (by decide +kernel) ⟨Nat.le_of_ble_eq_true rfl, Nat.le_of_ble_eq_true rfl⟩) ⟨zPr_blind, zPr_pre hP hK [] [] rfl rfl⟩ rfl rfl hl.1 rfl (lv_room (Nat.le_of_ble_eq_true rfl)) d_Pa_drawBox_14 ⟨Nat.le_of_ble_eq_true rfl, Nat.le_of_ble_eq_true rfl⟩).run (fun r_14 q_14 => ?_)
  obtain rfl := q_14
  refine zn_z (fun la e_la => ?_)
  refine lv_istore (lv' := [(6, .int (iZ la)), (5, .int (iZ fi)), (0, .ref hp), (1, .int (iZ lf)), (2, .int (iZ tp)), (3, .int (iZ rt)), (4, .int (iZ bt))]) hx hb d_Pa_drawBox_17 hl (by decide) rfl (fun ls hl => ?_)
  refine lv_iload_n hx hb d_Pa_drawBox_19 rfl (lv_at hl 4 rfl) ?_
  refine lv_iconst (v := iZ (0)) hx hb d_Pa_drawBox_20 rfl ?_
  refine vp_callSi (va_runS (As := [.int (iZ tp), .int (iZ 0)]) (rest := []) ⟨hx, hb, hml, hown, hts⟩ (c_Math_maxi l dC dI tp 0 (by first | omega | assumption) (by first | omega | assumption) (by first | omega | assumption) (by first | omega | assumption)) (va_cwS 2 hts (gS t_282 t_269 t_12 t_270) rfl rfl rfl (by decide +kernel) ⟨Nat.le_of_ble_eq_true rfl, Nat.le_of_ble_eq_true rfl⟩) ⟨zPr_blind, zPr_pre hP hK [] [] rfl rfl⟩ rfl rfl hl.1 rfl (lv_room (Nat.le_of_ble_eq_true rfl)) d_Pa_drawBox_21 ⟨Nat.le_of_ble_eq_true rfl, Nat.le_of_ble_eq_true rfl⟩).run (fun r_21 q_21 => ?_)
  obtain rfl := q_21
  refine zn_z (fun fr e_fr => ?_)
  refine lv_istore (lv' := [(7, .int (iZ fr)), (6, .int (iZ la)), (5, .int (iZ fi)), (0, .ref hp), (1, .int (iZ lf)), (2, .int (iZ tp)), (3, .int (iZ rt)), (4, .int (iZ bt))]) hx hb d_Pa_drawBox_24 hl (by decide) rfl (fun ls hl => ?_)
  refine lv_iload hx hb d_Pa_drawBox_26 (lv_at hl 7 rfl) ?_
  refine lv_aload_n hx hb d_Pa_drawBox_28 rfl (lv_at hl 3 rfl) ?_
  refine va_get (D := (dC, dI)) (ci := 2) (v := .int (iZ h)) (C := R_Pa) (T := T_Pa) (N := 6) hx hb hts wi_Pa hown hK hP 0 rfl rfl 1 (by decide) (hts _ t_35) (fun _ h9 => h9) rfl d_Pa_drawBox_29 ?_
  refine lv_iconst (v := iZ (1)) hx hb d_Pa_drawBox_32 rfl ?_
  refine zi_sub hx hb d_Pa_drawBox_33 ?_
  refine vp_callSi (va_runS (As := [.int (iZ bt), .int (iZ (h - 1))]) (rest := []) ⟨hx, hb, hml, hown, hts⟩ (c_Math_mini l dC dI bt (h - 1) (by first | omega | assumption) (by first | omega | assumption) (by first | omega | assumption) (by first | omega | assumption)) (va_cwS 2 hts (gS t_283 t_272 t_12 t_273) rfl rfl rfl (by decide +kernel) ⟨Nat.le_of_ble_eq_true rfl, Nat.le_of_ble_eq_true rfl⟩) ⟨zPr_blind, zPr_pre hP hK [] [] rfl rfl⟩ rfl rfl hl.1 rfl (lv_room (Nat.le_of_ble_eq_true rfl)) d_Pa_drawBox_34 ⟨Nat.le_of_ble_eq_true rfl, Nat.le_of_ble_eq_true rfl⟩).run (fun r_34 q_34 => ?_)
  obtain rfl := q_34
  refine zn_z (fun lr e_lr => ?_)
  refine lv_istore (lv' := [(8, .int (iZ lr)), (7, .int (iZ fr)), (6, .int (iZ la)), (5, .int (iZ fi)), (0, .ref hp), (1, .int (iZ lf)), (2, .int (iZ tp)), (3, .int (iZ rt)), (4, .int (iZ bt))]) hx hb d_Pa_drawBox_37 hl (by decide) rfl (fun ls hl => ?_)
  refine lv_iload hx hb d_Pa_drawBox_39 (lv_at hl 3 rfl) ?_
  refine lv_iload hx hb d_Pa_drawBox_41 (lv_at hl 2 rfl) ?_
  refine zi_gt (tgt := 53) hx hb d_Pa_drawBox_43 (by decide) (by omega) (by omega) (by omega) (by omega) (fun c_43 => ?_) (fun c_43 => ?_)
  · refine lv_iconst (v := iZ (0)) hx hb d_Pa_drawBox_53 rfl ?_
    exact W.iret hx hb hr (fun t ht hW => ⟨⟨_, G, rfl, ⟨congrArg iZ (by unfold boxN; rw [if_pos (by omega)]), by rw [drw_no (fun x y => by unfold onB bxB; rw [← Bool.decide_and]; exact decide_eq_false (by omega))]; exact hR⟩, by rw [ht]; exact hP, va_K.moved hW.alike hK, hD⟩, hS.F ht⟩) hS.2.2 d_Pa_drawBox_54
  · refine lv_iload hx hb d_Pa_drawBox_46 (lv_at hl 1 rfl) ?_
    refine lv_iload hx hb d_Pa_drawBox_48 (lv_at hl 0 rfl) ?_
    refine zi_le (tgt := 55) hx hb d_Pa_drawBox_50 (by decide) (by omega) (by omega) (by omega) (by omega) (fun c_50 => ?_) (fun c_50 => ?_)
    · refine lv_iload hx hb d_Pa_drawBox_55 (lv_at hl 3 rfl) ?_
      refine lv_bipush (v := iZ (64)) hx hb d_Pa_drawBox_57 (by decide) ?_
      refine zi_div hx hb d_Pa_drawBox_59 (by omega) (by omega) (by omega) (by omega) ?_
      refine zn_z (fun c0 e_c0 => ?_)
      refine lv_istore (lv' := [(9, .int (iZ c0)), (8, .int (iZ lr)), (7, .int (iZ fr)), (6, .int (iZ la)), (5, .int (iZ fi)), (0, .ref hp), (1, .int (iZ lf)), (2, .int (iZ tp)), (3, .int (iZ rt)), (4, .int (iZ bt))]) hx hb d_Pa_drawBox_60 hl (by decide) rfl (fun ls hl => ?_)
      have LP_62 : ∀ (n_62 : Nat) (col : Int) (K : Int → Int64), (fi / 64 ≤ col) → (col ≤ 16) → (Rep K (drw mn (bxP fi la fr lr col fr) pic)) → (16 - col).toNat < n_62 → ∀ (H : Heap) (locs : List Loc), va_P (dC, dI) vwCl [(hp, .inr (2, [.int (iZ w), .int (iZ h), .int (iZ mn), .ref hw, .ref hs, .ref hk])), (hw, .inl (cL, 16384, .inr (.inl (aL K))))] H → va_D A [(hp, .inr (2, [.int (iZ w), .int (iZ h), .int (iZ mn), .ref hw, .ref hs, .ref hk])), (hw, .inl (cL, 16384, .inr (.inl (aL K))))] → va_S A s.heap H locs → ∀ (ls : Array Slot), lv_has ls 13 [(0, .ref hp), (5, .int (iZ fi)), (6, .int (iZ la)), (7, .int (iZ fr)), (8, .int (iZ lr)), (9, .int (iZ col))] → W p l e ({ frames := 2, cells := 0, slots := 0, locals := 45 } : Room) s m ([.ref hp, .int (iZ lf), .int (iZ tp), .int (iZ rt), .int (iZ bt)] : List Value).toArray below meth c H locs 0 0 (MQ below (va_Qi (fun (r : Int32) (u : Int → Int64) => r = iZ (boxN w h lf tp rt bt) ∧ Rep u (drw mn (fun x y => onB w h x y && bxB lf tp rt bt x y) pic)) (fun u => zB (dC, dI) vwCl [(cL, .long)] A [(hp, .inr (2, [.int (iZ w), .int (iZ h), .int (iZ mn), .ref hw, .ref hs, .ref hk])), (hw, .inl (cL, 16384, .inr (.inl (aL u))))]) A) ([.ref hp, .int (iZ lf), .int (iZ tp), .int (iZ rt), .int (iZ bt)] : List Value).toArray s 0 0 A) (F0 m 62 ls []) := by
        intro n_62
        induction n_62 with
        | zero => intro col K i1 i2 i3 hm; exact absurd hm (by omega)
        | succ n_62 ih_62 =>
          intro col K i1 i2 i3 hm_62 H locs hP hD hS ls hl
          refine lv_iload hx hb d_Pa_drawBox_62 (lv_at hl 5 rfl) ?_
          refine lv_iload hx hb d_Pa_drawBox_64 (lv_at hl 2 rfl) ?_
          refine lv_bipush (v := iZ (64)) hx hb d_Pa_drawBox_66 (by decide) ?_
          refine zi_div hx hb d_Pa_drawBox_68 (by omega) (by omega) (by omega) (by omega) ?_
          refine zi_gt (tgt := 120) hx hb d_Pa_drawBox_69 (by decide) (by omega) (by omega) (by omega) (by omega) (fun c_69 => ?_) (fun c_69 => ?_)
          · refine lv_iload hx hb d_Pa_drawBox_120 (lv_at hl 2 rfl) ?_
            refine lv_iload hx hb d_Pa_drawBox_122 (lv_at hl 1 rfl) ?_
            refine zi_sub hx hb d_Pa_drawBox_124 ?_
            refine lv_iconst (v := iZ (1)) hx hb d_Pa_drawBox_125 rfl ?_
            refine zi_add hx hb d_Pa_drawBox_126 ?_
            refine lv_iload hx hb d_Pa_drawBox_127 (lv_at hl 4 rfl) ?_
            refine lv_iload hx hb d_Pa_drawBox_129 (lv_at hl 3 rfl) ?_
            refine zi_sub hx hb d_Pa_drawBox_131 ?_
            refine lv_iconst (v := iZ (1)) hx hb d_Pa_drawBox_132 rfl ?_
            refine zi_add hx hb d_Pa_drawBox_133 ?_
            refine zi_mul hx hb d_Pa_drawBox_134 ?_
            exact W.iret hx hb hr (fun t ht hW => ⟨⟨_, K, rfl, ⟨congrArg iZ (by unfold boxN; rw [if_neg (by omega), e_la, e_fi, e_lr, e_fr]), by rw [← drw_ext (bxP_1 (col := col) (row := fr) (by omega)), ← e_la, ← e_fi, ← e_lr, ← e_fr]; exact i3⟩, by rw [ht]; exact hP, va_K.moved hW.alike hK, hD⟩, hS.F ht⟩) hS.2.2 d_Pa_drawBox_135
          · refine lv_iload hx hb d_Pa_drawBox_72 (lv_at hl 5 rfl) ?_
            refine lv_iload hx hb d_Pa_drawBox_74 (lv_at hl 1 rfl) ?_
            refine lv_iload hx hb d_Pa_drawBox_76 (lv_at hl 2 rfl) ?_
            refine vp_callSl (va_runS (As := [.int (iZ col), .int (iZ fi), .int (iZ la)]) (rest := []) ⟨hx, hb, hml, hown, hts⟩ (c_Paper_maskOf l dC dI col fi la (by first | omega | assumption) (by first | omega | assumption) (by first | omega | assumption) (by first | omega | assumption) (by first | omega | assumption) (by first | omega | assumption) (by first | omega | assumption) (by first | omega | assumption)) (va_cwS 3 hts (gS t_284 t_285 t_2 t_286) rfl rfl rfl (by decide +kernel) ⟨Nat.le_of_ble_eq_true rfl, Nat.le_of_ble_eq_true rfl⟩) ⟨zPr_blind, zPr_pre hP hK [] [] rfl rfl⟩ rfl rfl hl.1 rfl (lv_room (Nat.le_of_ble_eq_true rfl)) d_Pa_drawBox_78 ⟨Nat.le_of_ble_eq_true rfl, Nat.le_of_ble_eq_true rfl⟩).run (fun r_78 q_78 => ?_)
            refine lv_lstore (lv' := [(10, .long r_78), (0, .ref hp), (5, .int (iZ fi)), (6, .int (iZ la)), (7, .int (iZ fr)), (8, .int (iZ lr)), (9, .int (iZ col))]) hx hb d_Pa_drawBox_81 hl (by decide) rfl (fun ls hl => ?_)
            refine lv_iload hx hb d_Pa_drawBox_83 (lv_at hl 4 rfl) ?_
            refine lv_istore (lv' := [(12, .int (iZ fr)), (10, .long r_78), (0, .ref hp), (5, .int (iZ fi)), (6, .int (iZ la)), (7, .int (iZ fr)), (8, .int (iZ lr)), (9, .int (iZ col))]) hx hb d_Pa_drawBox_85 hl (by decide) rfl (fun ls hl => ?_)
            have LP_87 : ∀ (n_87 : Nat) (row : Int) (K2 : Int → Int64), (fr ≤ row) → (row ≤ 1024) → (Rep K2 (drw mn (bxP fi la fr lr col row) pic)) → (1024 - row).toNat < n_87 → ∀ (H : Heap) (locs : List Loc), va_P (dC, dI) vwCl [(hp, .inr (2, [.int (iZ w), .int (iZ h), .int (iZ mn), .ref hw, .ref hs, .ref hk])), (hw, .inl (cL, 16384, .inr (.inl (aL K2))))] H → va_D A [(hp, .inr (2, [.int (iZ w), .int (iZ h), .int (iZ mn), .ref hw, .ref hs, .ref hk])), (hw, .inl (cL, 16384, .inr (.inl (aL K2))))] → va_S A s.heap H locs → ∀ (ls : Array Slot), lv_has ls 13 [(0, .ref hp), (5, .int (iZ fi)), (6, .int (iZ la)), (7, .int (iZ fr)), (8, .int (iZ lr)), (9, .int (iZ col)), (10, .long r_78), (12, .int (iZ row))] → W p l e ({ frames := 2, cells := 0, slots := 0, locals := 45 } : Room) s m ([.ref hp, .int (iZ lf), .int (iZ tp), .int (iZ rt), .int (iZ bt)] : List Value).toArray below meth c H locs 0 0 (MQ below (va_Qi (fun (r : Int32) (u : Int → Int64) => r = iZ (boxN w h lf tp rt bt) ∧ Rep u (drw mn (fun x y => onB w h x y && bxB lf tp rt bt x y) pic)) (fun u => zB (dC, dI) vwCl [(cL, .long)] A [(hp, .inr (2, [.int (iZ w), .int (iZ h), .int (iZ mn), .ref hw, .ref hs, .ref hk])), (hw, .inl (cL, 16384, .inr (.inl (aL u))))]) A) ([.ref hp, .int (iZ lf), .int (iZ tp), .int (iZ rt), .int (iZ bt)] : List Value).toArray s 0 0 A) (F0 m 87 ls []) := by
              intro n_87
              induction n_87 with
              | zero => intro row K2 j1 j2 j3 hm; exact absurd hm (by omega)
              | succ n_87 ih_87 =>
                intro row K2 j1 j2 j3 hm_87 H locs hP hD hS ls hl
                refine lv_iload hx hb d_Pa_drawBox_87 (lv_at hl 7 rfl) ?_
                refine lv_iload hx hb d_Pa_drawBox_89 (lv_at hl 4 rfl) ?_
                refine zi_gt (tgt := 114) hx hb d_Pa_drawBox_91 (by decide) (by omega) (by omega) (by omega) (by omega) (fun c_91 => ?_) (fun c_91 => ?_)
                · refine lv_iinc (v := iZ (col + 1)) (lv' := [(9, .int (iZ (col + 1))), (0, .ref hp), (5, .int (iZ fi)), (6, .int (iZ la)), (7, .int (iZ fr)), (8, .int (iZ lr)), (10, .long r_78), (12, .int (iZ row))]) hx hb d_Pa_drawBox_114 hl (k := 5) rfl (iZ_add _ _) (by decide) rfl (fun ls hl => ?_)
                  refine lv_goto (tgt := 62) hx hb d_Pa_drawBox_117 (by decide) ?_
                  exact ih_62 (col + 1) K2 (by omega) (by omega) (by rw [← drw_ext (bxP_col (by omega))]; exact j3) (by omega) _ _ hP hD hS ls (lv_sub hl [1, 2, 3, 4, 5, 0] rfl)
                · refine lv_aload_n hx hb d_Pa_drawBox_94 rfl (lv_at hl 0 rfl) ?_
                  refine lv_iload hx hb d_Pa_drawBox_95 (lv_at hl 7 rfl) ?_
                  refine lv_bipush (v := iZ (16)) hx hb d_Pa_drawBox_97 (by decide) ?_
                  refine zi_mul hx hb d_Pa_drawBox_99 ?_
                  refine lv_iload hx hb d_Pa_drawBox_100 (lv_at hl 5 rfl) ?_
                  refine zi_add hx hb d_Pa_drawBox_102 ?_
                  refine lv_lload hx hb d_Pa_drawBox_103 (lv_at hl 6 rfl) ?_
                  refine zc_v (w1 := fun u_105 => [(hp, .inr (2, [.int (iZ w), .int (iZ h), .int (iZ mn), .ref hw, .ref hs, .ref hk])), (hw, .inl (cL, 16384, .inr (.inl (aL u_105))))]) (wr := []) (va_runV (As := [.int (iZ ((row * 16) + col)), .long r_78]) (rest := []) ⟨hx, hb, hml, hown, hts⟩ (c_Paper_change l dC dI hp hw hs hk cL w h mn K2 ((row * 16) + col) r_78 H.size (by first | omega | assumption) (by first | omega | assumption) (by first | omega | assumption) (by first | omega | assumption)) (cwV 2 hts (gV t_288 t_290 s_1 t_2 t_291) rfl rfl rfl (by decide +kernel) ⟨Nat.le_of_ble_eq_true rfl, Nat.le_of_ble_eq_true rfl⟩) ⟨zPm_blind, va_recv hK hP (ci := 2) (q0 := 0) rfl rfl, zPm_pre hP hD hK [0, 1] [0] rfl rfl rfl rfl⟩ rfl rfl hl.1 rfl (lv_room (Nat.le_of_ble_eq_true rfl)) d_Pa_drawBox_105 ⟨Nat.le_of_ble_eq_true rfl, Nat.le_of_ble_eq_true rfl⟩) hP hD hS hA [0, 1] [] rfl rfl rfl (by decide) (fun u_105 H locs q_105 hP hD hS => ?_)
                  have hP : va_P (dC, dI) vwCl [(hp, .inr (2, [.int (iZ w), .int (iZ h), .int (iZ mn), .ref hw, .ref hs, .ref hk])), (hw, .inl (cL, 16384, .inr (.inl (aL u_105))))] H := hP
                  have hD : va_D A [(hp, .inr (2, [.int (iZ w), .int (iZ h), .int (iZ mn), .ref hw, .ref hs, .ref hk])), (hw, .inl (cL, 16384, .inr (.inl (aL u_105))))] := hD
                  refine lv_iinc (v := iZ (row + 1)) (lv' := [(12, .int (iZ (row + 1))), (0, .ref hp), (5, .int (iZ fi)), (6, .int (iZ la)), (7, .int (iZ fr)), (8, .int (iZ lr)), (9, .int (iZ col)), (10, .long r_78)]) hx hb d_Pa_drawBox_108 hl (k := 7) rfl (iZ_add _ _) (by decide) rfl (fun ls hl => ?_)
                  refine lv_goto (tgt := 87) hx hb d_Pa_drawBox_111 (by decide) ?_
                  exact ih_87 (row + 1) u_105 (by omega) (by omega) (by rw [q_105, ← drw_ext (bxP_row (col := col) (f := fi) (la := la) j1 (by omega))]; exact Rep_chg j3 (T := fun x y => decide (y = row ∧ x / 64 = col ∧ fi ≤ x ∧ x ≤ la)) (by omega) (by omega) (by omega) (by omega) (fun k k1 k2 => by rw [q_78 k k1 k2]; exact decide_eq_decide.mpr (by omega)) (fun x y q => by have := of_decide_eq_true q; exact ⟨this.1, this.2.1⟩) (fun x y q => by have := of_decide_eq_true q; exact decide_eq_false (by omega))) (by omega) _ _ hP hD hS ls (lv_sub hl [1, 2, 3, 4, 5, 6, 7, 0] rfl)
            exact LP_87 _ fr K (by omega) (by omega) (by omega) (Nat.lt_succ_self _) _ _ hP hD hS ls (lv_sub hl [2, 3, 4, 5, 6, 7, 1, 0] rfl)
      exact LP_62 _ c0 G (by omega) (by omega) (by rw [drw_no (bxP_0 e_c0 rfl)]; exact hR) (Nat.lt_succ_self _) _ _ hP hD hS ls (lv_sub hl [5, 4, 3, 2, 1, 0] rfl)
    · refine lv_iconst (v := iZ (0)) hx hb d_Pa_drawBox_53 rfl ?_
      exact W.iret hx hb hr (fun t ht hW => ⟨⟨_, G, rfl, ⟨congrArg iZ (by unfold boxN; rw [if_pos (by omega)]), by rw [drw_no (fun x y => by unfold onB bxB; rw [← Bool.decide_and]; exact decide_eq_false (by omega))]; exact hR⟩, by rw [ht]; exact hP, va_K.moved hW.alike hK, hD⟩, hS.F ht⟩) hS.2.2 d_Pa_drawBox_54
