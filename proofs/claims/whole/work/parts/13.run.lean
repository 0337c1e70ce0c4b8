/-! runs of dots that are alike -/
def riN (q : Int → Bool) : Nat → Int
  | 0 => 0
  | k + 1 => riN q k + (if q (k + 1) = q k then 0 else 1)
def rcN (q : Int → Bool) (i : Int) : Nat → Int
  | 0 => 0
  | k + 1 => rcN q i k + (if riN q k = i then 1 else 0)
def runS (q : Int → Bool) (many i : Int) : Int := if rcN q i many.toNat = 0 then -1 else rcN q i many.toNat
theorem ri_step (q : Int → Bool) (k : Nat) : riN q k ≤ riN q (k + 1) ∧ riN q (k + 1) ≤ riN q k + 1 := by
  show riN q k ≤ riN q k + _ ∧ riN q k + _ ≤ _
  split <;> omega
theorem ri_mono (q : Int → Bool) {a b : Nat} (h : a ≤ b) : riN q a ≤ riN q b := by
  induction b with
  | zero => rw [show a = 0 by omega]; exact Int.le_refl _
  | succ b ih =>
    by_cases e : a = b + 1
    · rw [e]; exact Int.le_refl _
    · exact Int.le_trans (ih (by omega)) (ri_step q b).1
theorem ri_in (q : Int → Bool) (k : Nat) : 0 ≤ riN q k ∧ riN q k ≤ k := by
  induction k with
  | zero => exact ⟨Int.le_refl _, Int.le_refl _⟩
  | succ k ih => have := ri_step q k; omega
theorem rc_zero {q : Int → Bool} {i : Int} {n : Nat} (h : ∀ j, j < n → riN q j ≠ i) : rcN q i n = 0 := by
  induction n with
  | zero => rfl
  | succ n ih =>
    show rcN q i n + _ = 0
    rw [ih (fun j hj => h j (by omega)), if_neg (h n (by omega))]; rfl
theorem rc_tail {q : Int → Bool} {i : Int} {k n : Nat} (hk : k ≤ n) (h : ∀ j, k ≤ j → j < n → riN q j ≠ i) : rcN q i n = rcN q i k := by
  induction n with
  | zero => rw [show k = 0 by omega]
  | succ n ih =>
    by_cases e : k = n + 1
    · rw [e]
    · show rcN q i n + _ = _
      rw [ih (by omega) (fun j h1 h2 => h j h1 (by omega)), if_neg (h n (by omega) (by omega)), Int.add_zero]
theorem rc_in (q : Int → Bool) (i : Int) (n : Nat) : 0 ≤ rcN q i n ∧ rcN q i n ≤ n := by
  induction n with
  | zero => exact ⟨Int.le_refl _, Int.le_refl _⟩
  | succ n ih =>
    show 0 ≤ rcN q i n + _ ∧ rcN q i n + _ ≤ _
    split <;> omega
theorem rc_pos {q : Int → Bool} {i : Int} {j n : Nat} (h : j < n) (e : riN q j = i) : 1 ≤ rcN q i n := by
  induction n with
  | zero => omega
  | succ n ih =>
    show 1 ≤ rcN q i n + _
    have := rc_in q i n
    by_cases q2 : j = n
    · subst q2; rw [if_pos e]; omega
    · have := ih (by omega); split <;> omega
/-- the loop of runLength: n dots are seen -/
def rlI (q : Int → Bool) (i ix len : Int) (dk : Bool) (n : Nat) : Prop := ix = riN q (n - 1) ∧ len = rcN q ix n ∧ dk = q ((n - 1 : Nat) : Int) ∧ ¬ (0 ≤ i ∧ i < ix)
theorem rl_0 (q : Int → Bool) (i : Int) {b : Bool} (hb : q 0 = b) : rlI q i 0 0 b 0 := ⟨rfl, rfl, hb.symm, by omega⟩
theorem rl_same {q : Int → Bool} {i ix len : Int} {dk : Bool} {n : Nat} (h : rlI q i ix len dk n) (e : q n = dk) : rlI q i ix (len + 1) dk (n + 1) := by
  obtain ⟨h1, h2, h3, h4⟩ := h
  have r : riN q n = ix := by
    cases n with
    | zero => exact h1.symm
    | succ n =>
      show riN q n + _ = ix
      rw [if_pos (by rw [show ((n : Int) + 1) = ((n + 1 : Nat) : Int) by omega, e, h3]; rfl), Int.add_zero]; exact h1.symm
  refine ⟨r.symm, ?_, e.symm, h4⟩
  show len + 1 = rcN q ix n + _
  rw [if_pos r, h2]
theorem rl_new {q : Int → Bool} {i ix len : Int} {dk : Bool} {n : Nat} (h : rlI q i ix len dk n) (e : q n ≠ dk) (hi : ix ≠ i) {b : Bool} (hb : q n = b) : rlI q i (ix + 1) (0 + 1) b (n + 1) := by
  subst hb
  obtain ⟨h1, h2, h3, h4⟩ := h
  have r : riN q n = ix + 1 := by
    cases n with
    | zero => exact absurd h3.symm e
    | succ n =>
      show riN q n + _ = ix + 1
      rw [if_neg (fun z => e (by rw [h3, show ((n + 1 : Nat) : Int) = (n : Int) + 1 by omega, z]; rfl)), h1]; rfl
  refine ⟨r.symm, ?_, rfl, by omega⟩
  show 0 + 1 = rcN q (ix + 1) n + _
  rw [if_pos r, rc_zero]
  intro j hj z
  have := ri_mono q (show j ≤ n - 1 by omega)
  omega
theorem rl_found {q : Int → Bool} {i ix len : Int} {dk : Bool} {n : Nat} {many : Int} (h : rlI q i ix len dk n) (e : q n ≠ dk) (hi : ix = i) (hn : n < many) : len = runS q many i := by
  obtain ⟨h1, h2, h3, h4⟩ := h
  have n0 : n ≠ 0 := by intro z; subst z; exact e h3.symm
  obtain ⟨k, rfl⟩ : ∃ k, n = k + 1 := ⟨n - 1, by omega⟩
  have r : riN q (k + 1) = ix + 1 := by
    show riN q k + _ = ix + 1
    rw [if_neg (fun z => e (by rw [h3, show ((k + 1 : Nat) : Int) = (k : Int) + 1 by omega, z]; rfl)), h1]; rfl
  have t := rc_tail (q := q) (i := i) (k := k + 1) (n := many.toNat) (by omega) (fun j a b z => by have := ri_mono q a; omega)
  have p := rc_pos (q := q) (i := i) (j := k) (n := k + 1) (by omega) (by rw [← hi, h1]; rfl)
  unfold runS
  rw [t, if_neg (by omega), h2, hi]
theorem rl_end {q : Int → Bool} {i ix len : Int} {dk : Bool} {n : Nat} {many : Int} (h : rlI q i ix len dk n) (hn : many = n) (h1 : 1 ≤ many) : (ix = i → len = runS q many i) ∧ (ix ≠ i → -1 = runS q many i) := by
  obtain ⟨e1, e2, e3, e4⟩ := h
  have hm : many.toNat = n := by omega
  constructor
  · intro z
    have p := rc_pos (q := q) (i := i) (j := n - 1) (n := n) (by omega) (by rw [← z, e1])
    unfold runS
    rw [hm, if_neg (by omega), e2, z]
  · intro z
    unfold runS
    rw [hm, if_pos]
    apply rc_zero
    intro j hj z2
    have a := ri_mono q (show j ≤ n - 1 by omega)
    have b := ri_in q j
    omega
theorem runS_in (q : Int → Bool) {many : Int} (i : Int) (h : 1 ≤ many) : -1 ≤ runS q many i ∧ runS q many i ≤ many := by
  unfold runS
  have := rc_in q i many.toNat
  split <;> omega
theorem bI_inj {a b : Bool} : bI a = bI b ↔ a = b := by cases a <;> cases b <;> decide
theorem mul01 {k s : Int} (h : 0 ≤ k) (s1 : 0 ≤ s) (s2 : s ≤ 1) : 0 ≤ k * s ∧ k * s ≤ k := by
  rcases (show s = 0 ∨ s = 1 by omega) with rfl | rfl
  · omega
  · omega
theorem bn_t {a b : Bool} (h : a ≠ b) (e : b = true) : a = false := by cases a; rfl; exact absurd e.symm h
theorem bn_f {a b : Bool} (h : a ≠ b) (e : b = false) : a = true := by cases a; exact absurd e.symm h; rfl
theorem d_Pa_runLength_0 : decode c_yPa_runLength 0 = .ok (.aload_n 0, 1) := by decide +kernel
theorem d_Pa_runLength_1 : decode c_yPa_runLength 1 = .ok (.iload_n 1, 1) := by decide +kernel
theorem d_Pa_runLength_2 : decode c_yPa_runLength 2 = .ok (.iload_n 2, 1) := by decide +kernel
theorem d_Pa_runLength_3 : decode c_yPa_runLength 3 = .ok (.invokevirtual 96, 3) := by decide +kernel
theorem d_Pa_runLength_6 : decode c_yPa_runLength 6 = .ok (.istore 7, 2) := by decide +kernel
theorem d_Pa_runLength_8 : decode c_yPa_runLength 8 = .ok (.iconst 0, 1) := by decide +kernel
theorem d_Pa_runLength_9 : decode c_yPa_runLength 9 = .ok (.istore 8, 2) := by decide +kernel
theorem d_Pa_runLength_11 : decode c_yPa_runLength 11 = .ok (.iconst 0, 1) := by decide +kernel
theorem d_Pa_runLength_12 : decode c_yPa_runLength 12 = .ok (.istore 9, 2) := by decide +kernel
theorem d_Pa_runLength_14 : decode c_yPa_runLength 14 = .ok (.iconst 0, 1) := by decide +kernel
theorem d_Pa_runLength_15 : decode c_yPa_runLength 15 = .ok (.istore 10, 2) := by decide +kernel
theorem d_Pa_runLength_17 : decode c_yPa_runLength 17 = .ok (.iload 10, 2) := by decide +kernel
theorem d_Pa_runLength_19 : decode c_yPa_runLength 19 = .ok (.iload 5, 2) := by decide +kernel
theorem d_Pa_runLength_21 : decode c_yPa_runLength 21 = .ok (.if_icmp .ge 62, 3) := by decide +kernel
theorem d_Pa_runLength_24 : decode c_yPa_runLength 24 = .ok (.aload_n 0, 1) := by decide +kernel
theorem d_Pa_runLength_25 : decode c_yPa_runLength 25 = .ok (.iload_n 1, 1) := by decide +kernel
theorem d_Pa_runLength_26 : decode c_yPa_runLength 26 = .ok (.iload 10, 2) := by decide +kernel
theorem d_Pa_runLength_28 : decode c_yPa_runLength 28 = .ok (.iload_n 3, 1) := by decide +kernel
theorem d_Pa_runLength_29 : decode c_yPa_runLength 29 = .ok (.imul, 1) := by decide +kernel
theorem d_Pa_runLength_30 : decode c_yPa_runLength 30 = .ok (.iadd, 1) := by decide +kernel
theorem d_Pa_runLength_31 : decode c_yPa_runLength 31 = .ok (.iload_n 2, 1) := by decide +kernel
theorem d_Pa_runLength_32 : decode c_yPa_runLength 32 = .ok (.iload 10, 2) := by decide +kernel
theorem d_Pa_runLength_34 : decode c_yPa_runLength 34 = .ok (.iload 4, 2) := by decide +kernel
theorem d_Pa_runLength_36 : decode c_yPa_runLength 36 = .ok (.imul, 1) := by decide +kernel
theorem d_Pa_runLength_37 : decode c_yPa_runLength 37 = .ok (.iadd, 1) := by decide +kernel
theorem d_Pa_runLength_38 : decode c_yPa_runLength 38 = .ok (.invokevirtual 96, 3) := by decide +kernel
theorem d_Pa_runLength_41 : decode c_yPa_runLength 41 = .ok (.iload 7, 2) := by decide +kernel
theorem d_Pa_runLength_43 : decode c_yPa_runLength 43 = .ok (.if_icmp .eq 31, 3) := by decide +kernel
theorem d_Pa_runLength_46 : decode c_yPa_runLength 46 = .ok (.iload 8, 2) := by decide +kernel
theorem d_Pa_runLength_48 : decode c_yPa_runLength 48 = .ok (.iload 6, 2) := by decide +kernel
theorem d_Pa_runLength_50 : decode c_yPa_runLength 50 = .ok (.if_icmp .ne 6, 3) := by decide +kernel
theorem d_Pa_runLength_53 : decode c_yPa_runLength 53 = .ok (.iload 9, 2) := by decide +kernel
theorem d_Pa_runLength_55 : decode c_yPa_runLength 55 = .ok (.ireturn, 1) := by decide +kernel
theorem d_Pa_runLength_56 : decode c_yPa_runLength 56 = .ok (.iload 7, 2) := by decide +kernel
theorem d_Pa_runLength_58 : decode c_yPa_runLength 58 = .ok (.ifCond .ne 7, 3) := by decide +kernel
theorem d_Pa_runLength_61 : decode c_yPa_runLength 61 = .ok (.iconst 1, 1) := by decide +kernel
theorem d_Pa_runLength_62 : decode c_yPa_runLength 62 = .ok (.goto 4, 3) := by decide +kernel
theorem d_Pa_runLength_65 : decode c_yPa_runLength 65 = .ok (.iconst 0, 1) := by decide +kernel
theorem d_Pa_runLength_66 : decode c_yPa_runLength 66 = .ok (.istore 7, 2) := by decide +kernel
theorem d_Pa_runLength_68 : decode c_yPa_runLength 68 = .ok (.iinc 8 1, 3) := by decide +kernel
theorem d_Pa_runLength_71 : decode c_yPa_runLength 71 = .ok (.iconst 0, 1) := by decide +kernel
theorem d_Pa_runLength_72 : decode c_yPa_runLength 72 = .ok (.istore 9, 2) := by decide +kernel
theorem d_Pa_runLength_74 : decode c_yPa_runLength 74 = .ok (.iinc 9 1, 3) := by decide +kernel
theorem d_Pa_runLength_77 : decode c_yPa_runLength 77 = .ok (.iinc 10 1, 3) := by decide +kernel
theorem d_Pa_runLength_80 : decode c_yPa_runLength 80 = .ok (.goto (-63), 3) := by decide +kernel
theorem d_Pa_runLength_83 : decode c_yPa_runLength 83 = .ok (.iload 8, 2) := by decide +kernel
theorem d_Pa_runLength_85 : decode c_yPa_runLength 85 = .ok (.iload 6, 2) := by decide +kernel
theorem d_Pa_runLength_87 : decode c_yPa_runLength 87 = .ok (.if_icmp .ne 8, 3) := by decide +kernel
theorem d_Pa_runLength_90 : decode c_yPa_runLength 90 = .ok (.iload 9, 2) := by decide +kernel
theorem d_Pa_runLength_92 : decode c_yPa_runLength 92 = .ok (.goto 4, 3) := by decide +kernel
theorem d_Pa_runLength_95 : decode c_yPa_runLength 95 = .ok (.iconst (-1), 1) := by decide +kernel
theorem d_Pa_runLength_96 : decode c_yPa_runLength 96 = .ok (.ireturn, 1) := by decide +kernel
set_option maxHeartbeats 4000000 in
set_option maxRecDepth 100000 in
theorem c_Paper_runLength (l : Launch) (dC : Nat → ClassId) (dI : Nat → Nat → Nat) (hp hw hs hk : Nat) (cL : ClassId) (w h mn : Int) (G : Int → Int64) (pic : Int → Int → Bool) (x y sx sy many i : Int) (w1 : 1 ≤ w) (w2 : w ≤ 1024) (h1 : 1 ≤ h) (h2 : h ≤ 1024) (hR : Rep G pic) (hO : Off w h pic) (x1 : 0 ≤ x) (x2 : x < 1024) (y1 : 0 ≤ y) (y2 : y < 1024) (sx1 : 0 ≤ sx) (sx2 : sx ≤ 1) (sy1 : 0 ≤ sy) (sy2 : sy ≤ 1) (m1 : 1 ≤ many) (m2 : many ≤ 1024) (i1 : -2147483648 ≤ i) (i2 : i ≤ 2147483647) : Met l y_Pa_runLength w_Pa_runLength ({ frames := 2, cells := 0, slots := 0, locals := 44 }) (va_Pc [.ref hp, .int (iZ x), .int (iZ y), .int (iZ sx), .int (iZ sy), .int (iZ many), .int (iZ i)] (zPr (dC, dI) vwCl [(hp, .inr (2, [.int (iZ w), .int (iZ h), .int (iZ mn), .ref hw, .ref hs, .ref hk])), (hw, .inl (cL, 16384, .inr (.inl (aL G))))] [(cL, .long)])) (vp_Si (fun r => r = iZ (runS (fun k => pic (x + k * sx) (y + k * sy)) many i))) 0 0 (fun _ => False) := by
  refine Met.ofW (cc := c_yPa_runLength) (maxL := 11) (ret := (some .int)) (by decide) rfl ?_
  intro p e s m args below meth c s₁ B hml hv
  obtain ⟨rfl, hP, hK⟩ := hv
  have hx := B.exec
  have hb := B.bytes
  have hr := B.returns
  have hts0 := atoms_spec (ws := w_Pa_runLength) B.pre
  have hts : ∀ w ∈ gT, w.before _ s = true := fun w h => hts0 w (List.mem_cons_of_mem _ h)
  have hown : s.vm.findClass R_Pa = some m.cls := findClass_of_methodNamed B.named
  have hlocks := B.notSynchronized
  have hl := lv_entry ([.ref hp, .int (iZ x), .int (iZ y), .int (iZ sx), .int (iZ sy), .int (iZ many), .int (iZ i)]) (n := 11) (Nat.le_of_ble_eq_true rfl)
  rw [lg_entry_eq]
  generalize (lg_sl ([.ref hp, .int (iZ x), .int (iZ y), .int (iZ sx), .int (iZ sy), .int (iZ many), .int (iZ i)]) ++ List.replicate (11 - (lg_sl ([.ref hp, .int (iZ x), .int (iZ y), .int (iZ sx), .int (iZ sy), .int (iZ many), .int (iZ i)])).length) Slot.unset).toArray = ls at hl ⊢
  have hl : lv_has ls 11 [(0, .ref hp), (1, .int (iZ x)), (2, .int (iZ y)), (3, .int (iZ sx)), (4, .int (iZ sy)), (5, .int (iZ many)), (6, .int (iZ i))] := hl
  refine lv_aload_n hx hb d_Pa_runLength_0 rfl (lv_at hl 0 rfl) ?_
  refine lv_iload_n hx hb d_Pa_runLength_1 rfl (lv_at hl 1 rfl) ?_
  refine lv_iload_n hx hb d_Pa_runLength_2 rfl (lv_at hl 2 rfl) ?_
  refine vp_callSi (va_runV (As := [.int (iZ x), .int (iZ y)]) (rest := []) ⟨hx, hb, hml, hown, hts⟩ (c_Paper_isDark l dC dI hp hw hs hk cL w h mn G pic x y (by first | omega | assumption) (by first | omega | assumption) (by first | omega | assumption) (by first | omega | assumption) (by first | omega | assumption) (by first | omega | assumption) (by first | omega | assumption) (by first | omega | assumption) (by first | omega | assumption) (by first | omega | assumption)) (cwV 2 hts (gV t_672 t_648 t_649 t_2 t_650) rfl rfl rfl (by decide +kernel) ⟨Nat.le_of_ble_eq_true rfl, Nat.le_of_ble_eq_true rfl⟩) ⟨zPr_blind, va_recv hK hP (ci := 2) (q0 := 0) rfl rfl, zPr_pre hP hK [0, 1] [0] rfl rfl⟩ rfl rfl hl.1 rfl (lv_room (Nat.le_of_ble_eq_true rfl)) d_Pa_runLength_3 ⟨Nat.le_of_ble_eq_true rfl, Nat.le_of_ble_eq_true rfl⟩).run (fun r_3 q_3 => ?_)
  obtain rfl := q_3
  refine lv_istore (lv' := [(7, .int (bI (pic x y))), (0, .ref hp), (1, .int (iZ x)), (2, .int (iZ y)), (3, .int (iZ sx)), (4, .int (iZ sy)), (5, .int (iZ many)), (6, .int (iZ i))]) hx hb d_Pa_runLength_6 hl (by decide) rfl (fun ls hl => ?_)
  refine lv_iconst (v := iZ (0)) hx hb d_Pa_runLength_8 rfl ?_
  refine lv_istore (lv' := [(8, .int (iZ 0)), (7, .int (bI (pic x y))), (0, .ref hp), (1, .int (iZ x)), (2, .int (iZ y)), (3, .int (iZ sx)), (4, .int (iZ sy)), (5, .int (iZ many)), (6, .int (iZ i))]) hx hb d_Pa_runLength_9 hl (by decide) rfl (fun ls hl => ?_)
  refine lv_iconst (v := iZ (0)) hx hb d_Pa_runLength_11 rfl ?_
  refine lv_istore (lv' := [(9, .int (iZ 0)), (8, .int (iZ 0)), (7, .int (bI (pic x y))), (0, .ref hp), (1, .int (iZ x)), (2, .int (iZ y)), (3, .int (iZ sx)), (4, .int (iZ sy)), (5, .int (iZ many)), (6, .int (iZ i))]) hx hb d_Pa_runLength_12 hl (by decide) rfl (fun ls hl => ?_)
  refine lv_iconst (v := iZ (0)) hx hb d_Pa_runLength_14 rfl ?_
  refine lv_istore (lv' := [(10, .int (iZ 0)), (9, .int (iZ 0)), (8, .int (iZ 0)), (7, .int (bI (pic x y))), (0, .ref hp), (1, .int (iZ x)), (2, .int (iZ y)), (3, .int (iZ sx)), (4, .int (iZ sy)), (5, .int (iZ many)), (6, .int (iZ i))]) hx hb d_Pa_runLength_15 hl (by decide) rfl (fun ls hl => ?_)
  have LP_17 : ∀ (n_17 : Nat) (k : Int) (ix : Int) (len : Int) (dk : Bool) (n : Nat), (k = n) → (k ≤ many) → (rlI (fun k => pic (x + k * sx) (y + k * sy)) i ix len dk n) → (0 ≤ ix ∧ ix ≤ n ∧ 0 ≤ len ∧ len ≤ n) → (many - k).toNat < n_17 → ∀ (ls : Array Slot), lv_has ls 11 [(0, .ref hp), (1, .int (iZ x)), (2, .int (iZ y)), (3, .int (iZ sx)), (4, .int (iZ sy)), (5, .int (iZ many)), (6, .int (iZ i)), (7, .int (bI dk)), (8, .int (iZ ix)), (9, .int (iZ len)), (10, .int (iZ k))] → W p l e ({ frames := 2, cells := 0, slots := 0, locals := 44 } : Room) s m ([.ref hp, .int (iZ x), .int (iZ y), .int (iZ sx), .int (iZ sy), .int (iZ many), .int (iZ i)] : List Value).toArray below meth c s.heap [] 0 0 (MQ below (vp_Si (fun r => r = iZ (runS (fun k => pic (x + k * sx) (y + k * sy)) many i))) ([.ref hp, .int (iZ x), .int (iZ y), .int (iZ sx), .int (iZ sy), .int (iZ many), .int (iZ i)] : List Value).toArray s 0 0 (fun _ => False)) (F0 m 17 ls []) := by
    intro n_17
    induction n_17 with
    | zero => intro k ix len dk n i1 i2 i3 i4 hm; exact absurd hm (by omega)
    | succ n_17 ih_17 =>
      intro k ix len dk n i1 i2 i3 i4 hm_17 ls hl
      have p1 := mul01 (k := k) (s := sx) (by omega) sx1 sx2
      have p2 := mul01 (k := k) (s := sy) (by omega) sy1 sy2
      refine lv_iload hx hb d_Pa_runLength_17 (lv_at hl 10 rfl) ?_
      refine lv_iload hx hb d_Pa_runLength_19 (lv_at hl 5 rfl) ?_
      refine zi_ge (tgt := 83) hx hb d_Pa_runLength_21 (by decide) (by omega) (by omega) (by omega) (by omega) (fun c_21 => ?_) (fun c_21 => ?_)
      · refine lv_iload hx hb d_Pa_runLength_83 (lv_at hl 8 rfl) ?_
        refine lv_iload hx hb d_Pa_runLength_85 (lv_at hl 6 rfl) ?_
        refine zi_ne (tgt := 95) hx hb d_Pa_runLength_87 (by decide) (by omega) (by omega) (by omega) (by omega) (fun c_87 => ?_) (fun c_87 => ?_)
        · refine lv_iconst (v := iZ (-1)) hx hb d_Pa_runLength_95 rfl ?_
          exact W.iret hx hb hr (fun t ht hW => ⟨_, rfl, congrArg iZ ((rl_end i3 (by omega) m1).2 (by omega)), ht⟩) (fun q h => nomatch h) d_Pa_runLength_96
        · refine lv_iload hx hb d_Pa_runLength_90 (lv_at hl 9 rfl) ?_
          refine lv_goto (tgt := 96) hx hb d_Pa_runLength_92 (by decide) ?_
          exact W.iret hx hb hr (fun t ht hW => ⟨_, rfl, congrArg iZ ((rl_end i3 (by omega) m1).1 (by omega)), ht⟩) (fun q h => nomatch h) d_Pa_runLength_96
      · refine lv_aload_n hx hb d_Pa_runLength_24 rfl (lv_at hl 0 rfl) ?_
        refine lv_iload_n hx hb d_Pa_runLength_25 rfl (lv_at hl 1 rfl) ?_
        refine lv_iload hx hb d_Pa_runLength_26 (lv_at hl 10 rfl) ?_
        refine lv_iload_n hx hb d_Pa_runLength_28 rfl (lv_at hl 3 rfl) ?_
        refine zi_mul hx hb d_Pa_runLength_29 ?_
        refine zi_add hx hb d_Pa_runLength_30 ?_
        refine lv_iload_n hx hb d_Pa_runLength_31 rfl (lv_at hl 2 rfl) ?_
        refine lv_iload hx hb d_Pa_runLength_32 (lv_at hl 10 rfl) ?_
        refine lv_iload hx hb d_Pa_runLength_34 (lv_at hl 4 rfl) ?_
        refine zi_mul hx hb d_Pa_runLength_36 ?_
        refine zi_add hx hb d_Pa_runLength_37 ?_
        refine vp_callSi (va_runV (As := [.int (iZ (x + (k * sx))), .int (iZ (y + (k * sy)))]) (rest := []) ⟨hx, hb, hml, hown, hts⟩ (c_Paper_isDark l dC dI hp hw hs hk cL w h mn G pic (x + (k * sx)) (y + (k * sy)) (by first | omega | assumption) (by first | omega | assumption) (by first | omega | assumption) (by first | omega | assumption) (by first | omega | assumption) (by first | omega | assumption) (by first | omega | assumption) (by first | omega | assumption) (by first | omega | assumption) (by first | omega | assumption)) (cwV 2 hts (gV t_672 t_648 t_649 t_2 t_650) rfl rfl rfl (by decide +kernel) ⟨Nat.le_of_ble_eq_true rfl, Nat.le_of_ble_eq_true rfl⟩) ⟨zPr_blind, va_recv hK hP (ci := 2) (q0 := 0) rfl rfl, zPr_pre hP hK [0, 1] [0] rfl rfl⟩ rfl rfl hl.1 rfl (lv_room (Nat.le_of_ble_eq_true rfl)) d_Pa_runLength_38 ⟨Nat.le_of_ble_eq_true rfl, Nat.le_of_ble_eq_true rfl⟩).run (fun r_38 q_38 => ?_)
        obtain rfl := q_38
        refine lv_iload hx hb d_Pa_runLength_41 (lv_at hl 7 rfl) ?_
        refine lv_icmp_eq (tgt := 74) hx hb d_Pa_runLength_43 (by decide) (fun c_43 => ?_) (fun c_43 => ?_)
        · refine lv_iinc (v := iZ (len + 1)) (lv' := [(9, .int (iZ (len + 1))), (0, .ref hp), (1, .int (iZ x)), (2, .int (iZ y)), (3, .int (iZ sx)), (4, .int (iZ sy)), (5, .int (iZ many)), (6, .int (iZ i)), (7, .int (bI dk)), (8, .int (iZ ix)), (10, .int (iZ k))]) hx hb d_Pa_runLength_74 hl (k := 9) rfl (iZ_add _ _) (by decide) rfl (fun ls hl => ?_)
          refine lv_iinc (v := iZ (k + 1)) (lv' := [(10, .int (iZ (k + 1))), (9, .int (iZ (len + 1))), (0, .ref hp), (1, .int (iZ x)), (2, .int (iZ y)), (3, .int (iZ sx)), (4, .int (iZ sy)), (5, .int (iZ many)), (6, .int (iZ i)), (7, .int (bI dk)), (8, .int (iZ ix))]) hx hb d_Pa_runLength_77 hl (k := 10) rfl (iZ_add _ _) (by decide) rfl (fun ls hl => ?_)
          refine lv_goto (tgt := 17) hx hb d_Pa_runLength_80 (by decide) ?_
          exact ih_17 (k + 1) ix (len + 1) dk (n + 1) (by omega) (by omega) (by first | exact rl_same i3 (by rw [← i1]; exact bI_inj.mp c_43) | exact rl_new i3 (by rw [← i1]; exact fun z => c_43 (congrArg bI z)) (by omega) (show pic (x + (n : Int) * sx) (y + (n : Int) * sy) = _ by rw [← i1]; first | exact bn_t (fun z => c_43 (congrArg bI z)) c_58 | exact bn_f (fun z => c_43 (congrArg bI z)) c_58)) (by omega) (by omega) ls (lv_sub hl [2, 3, 4, 5, 6, 7, 8, 9, 10, 1, 0] rfl)
        · refine lv_iload hx hb d_Pa_runLength_46 (lv_at hl 8 rfl) ?_
          refine lv_iload hx hb d_Pa_runLength_48 (lv_at hl 6 rfl) ?_
          refine zi_ne (tgt := 56) hx hb d_Pa_runLength_50 (by decide) (by omega) (by omega) (by omega) (by omega) (fun c_50 => ?_) (fun c_50 => ?_)
          · refine lv_iload hx hb d_Pa_runLength_56 (lv_at hl 7 rfl) ?_
            refine zb_if_ne (tgt := 65) hx hb d_Pa_runLength_58 (by decide) (fun c_58 => ?_) (fun c_58 => ?_)
            · refine lv_iconst (v := iZ (0)) hx hb d_Pa_runLength_65 rfl ?_
              refine lv_istore (lv' := [(7, .int (iZ 0)), (0, .ref hp), (1, .int (iZ x)), (2, .int (iZ y)), (3, .int (iZ sx)), (4, .int (iZ sy)), (5, .int (iZ many)), (6, .int (iZ i)), (8, .int (iZ ix)), (9, .int (iZ len)), (10, .int (iZ k))]) hx hb d_Pa_runLength_66 hl (by decide) rfl (fun ls hl => ?_)
              refine lv_iinc (v := iZ (ix + 1)) (lv' := [(8, .int (iZ (ix + 1))), (7, .int (iZ 0)), (0, .ref hp), (1, .int (iZ x)), (2, .int (iZ y)), (3, .int (iZ sx)), (4, .int (iZ sy)), (5, .int (iZ many)), (6, .int (iZ i)), (9, .int (iZ len)), (10, .int (iZ k))]) hx hb d_Pa_runLength_68 hl (k := 8) rfl (iZ_add _ _) (by decide) rfl (fun ls hl => ?_)
              refine lv_iconst (v := iZ (0)) hx hb d_Pa_runLength_71 rfl ?_
              refine lv_istore (lv' := [(9, .int (iZ 0)), (8, .int (iZ (ix + 1))), (7, .int (iZ 0)), (0, .ref hp), (1, .int (iZ x)), (2, .int (iZ y)), (3, .int (iZ sx)), (4, .int (iZ sy)), (5, .int (iZ many)), (6, .int (iZ i)), (10, .int (iZ k))]) hx hb d_Pa_runLength_72 hl (by decide) rfl (fun ls hl => ?_)
              refine lv_iinc (v := iZ (0 + 1)) (lv' := [(9, .int (iZ (0 + 1))), (8, .int (iZ (ix + 1))), (7, .int (iZ 0)), (0, .ref hp), (1, .int (iZ x)), (2, .int (iZ y)), (3, .int (iZ sx)), (4, .int (iZ sy)), (5, .int (iZ many)), (6, .int (iZ i)), (10, .int (iZ k))]) hx hb d_Pa_runLength_74 hl (k := 0) rfl (iZ_add _ _) (by decide) rfl (fun ls hl => ?_)
              refine lv_iinc (v := iZ (k + 1)) (lv' := [(10, .int (iZ (k + 1))), (9, .int (iZ (0 + 1))), (8, .int (iZ (ix + 1))), (7, .int (iZ 0)), (0, .ref hp), (1, .int (iZ x)), (2, .int (iZ y)), (3, .int (iZ sx)), (4, .int (iZ sy)), (5, .int (iZ many)), (6, .int (iZ i))]) hx hb d_Pa_runLength_77 hl (k := 10) rfl (iZ_add _ _) (by decide) rfl (fun ls hl => ?_)
              refine lv_goto (tgt := 17) hx hb d_Pa_runLength_80 (by decide) ?_
              exact ih_17 (k + 1) (ix + 1) (0 + 1) false (n + 1) (by omega) (by omega) (by first | exact rl_same i3 (by rw [← i1]; exact bI_inj.mp c_43) | exact rl_new i3 (by rw [← i1]; exact fun z => c_43 (congrArg bI z)) (by omega) (show pic (x + (n : Int) * sx) (y + (n : Int) * sy) = _ by rw [← i1]; first | exact bn_t (fun z => c_43 (congrArg bI z)) c_58 | exact bn_f (fun z => c_43 (congrArg bI z)) c_58)) (by omega) (by omega) ls (lv_sub hl [4, 5, 6, 7, 8, 9, 10, 3, 2, 1, 0] rfl)
            · refine lv_iconst (v := iZ (1)) hx hb d_Pa_runLength_61 rfl ?_
              refine lv_goto (tgt := 66) hx hb d_Pa_runLength_62 (by decide) ?_
              refine lv_istore (lv' := [(7, .int (iZ 1)), (0, .ref hp), (1, .int (iZ x)), (2, .int (iZ y)), (3, .int (iZ sx)), (4, .int (iZ sy)), (5, .int (iZ many)), (6, .int (iZ i)), (8, .int (iZ ix)), (9, .int (iZ len)), (10, .int (iZ k))]) hx hb d_Pa_runLength_66 hl (by decide) rfl (fun ls hl => ?_)
              refine lv_iinc (v := iZ (ix + 1)) (lv' := [(8, .int (iZ (ix + 1))), (7, .int (iZ 1)), (0, .ref hp), (1, .int (iZ x)), (2, .int (iZ y)), (3, .int (iZ sx)), (4, .int (iZ sy)), (5, .int (iZ many)), (6, .int (iZ i)), (9, .int (iZ len)), (10, .int (iZ k))]) hx hb d_Pa_runLength_68 hl (k := 8) rfl (iZ_add _ _) (by decide) rfl (fun ls hl => ?_)
              refine lv_iconst (v := iZ (0)) hx hb d_Pa_runLength_71 rfl ?_
              refine lv_istore (lv' := [(9, .int (iZ 0)), (8, .int (iZ (ix + 1))), (7, .int (iZ 1)), (0, .ref hp), (1, .int (iZ x)), (2, .int (iZ y)), (3, .int (iZ sx)), (4, .int (iZ sy)), (5, .int (iZ many)), (6, .int (iZ i)), (10, .int (iZ k))]) hx hb d_Pa_runLength_72 hl (by decide) rfl (fun ls hl => ?_)
              refine lv_iinc (v := iZ (0 + 1)) (lv' := [(9, .int (iZ (0 + 1))), (8, .int (iZ (ix + 1))), (7, .int (iZ 1)), (0, .ref hp), (1, .int (iZ x)), (2, .int (iZ y)), (3, .int (iZ sx)), (4, .int (iZ sy)), (5, .int (iZ many)), (6, .int (iZ i)), (10, .int (iZ k))]) hx hb d_Pa_runLength_74 hl (k := 0) rfl (iZ_add _ _) (by decide) rfl (fun ls hl => ?_)
              refine lv_iinc (v := iZ (k + 1)) (lv' := [(10, .int (iZ (k + 1))), (9, .int (iZ (0 + 1))), (8, .int (iZ (ix + 1))), (7, .int (iZ 1)), (0, .ref hp), (1, .int (iZ x)), (2, .int (iZ y)), (3, .int (iZ sx)), (4, .int (iZ sy)), (5, .int (iZ many)), (6, .int (iZ i))]) hx hb d_Pa_runLength_77 hl (k := 10) rfl (iZ_add _ _) (by decide) rfl (fun ls hl => ?_)
              refine lv_goto (tgt := 17) hx hb d_Pa_runLength_80 (by decide) ?_
              exact ih_17 (k + 1) (ix + 1) (0 + 1) true (n + 1) (by omega) (by omega) (by first | exact rl_same i3 (by rw [← i1]; exact bI_inj.mp c_43) | exact rl_new i3 (by rw [← i1]; exact fun z => c_43 (congrArg bI z)) (by omega) (show pic (x + (n : Int) * sx) (y + (n : Int) * sy) = _ by rw [← i1]; first | exact bn_t (fun z => c_43 (congrArg bI z)) c_58 | exact bn_f (fun z => c_43 (congrArg bI z)) c_58)) (by omega) (by omega) ls (lv_sub hl [4, 5, 6, 7, 8, 9, 10, 3, 2, 1, 0] rfl)
          · refine lv_iload hx hb d_Pa_runLength_53 (lv_at hl 9 rfl) ?_
            exact W.iret hx hb hr (fun t ht hW => ⟨_, rfl, congrArg iZ (rl_found i3 (by rw [← i1]; exact fun z => c_43 (congrArg bI z)) (by omega) (by omega)), ht⟩) (fun q h => nomatch h) d_Pa_runLength_55
  exact LP_17 _ 0 0 0 (pic x y) 0 (rfl) (by omega) (rl_0 _ i (show pic (x + 0 * sx) (y + 0 * sy) = pic x y by rw [Int.zero_mul, Int.zero_mul, Int.add_zero, Int.add_zero])) (by omega) (Nat.lt_succ_self _) ls (lv_sub hl [4, 5, 6, 7, 8, 9, 10, 3, 2, 1, 0] rfl)
theorem d_Pa_runRight_0 : decode c_yPa_runRight 0 = .ok (.aload_n 0, 1) := by decide +kernel
theorem d_Pa_runRight_1 : decode c_yPa_runRight 1 = .ok (.iload_n 1, 1) := by decide +kernel
theorem d_Pa_runRight_2 : decode c_yPa_runRight 2 = .ok (.iload_n 2, 1) := by decide +kernel
theorem d_Pa_runRight_3 : decode c_yPa_runRight 3 = .ok (.iconst 1, 1) := by decide +kernel
theorem d_Pa_runRight_4 : decode c_yPa_runRight 4 = .ok (.iconst 0, 1) := by decide +kernel
theorem d_Pa_runRight_5 : decode c_yPa_runRight 5 = .ok (.aload_n 0, 1) := by decide +kernel
theorem d_Pa_runRight_6 : decode c_yPa_runRight 6 = .ok (.getfield 11, 3) := by decide +kernel
theorem d_Pa_runRight_9 : decode c_yPa_runRight 9 = .ok (.iload_n 1, 1) := by decide +kernel
theorem d_Pa_runRight_10 : decode c_yPa_runRight 10 = .ok (.isub, 1) := by decide +kernel
theorem d_Pa_runRight_11 : decode c_yPa_runRight 11 = .ok (.iload_n 3, 1) := by decide +kernel
theorem d_Pa_runRight_12 : decode c_yPa_runRight 12 = .ok (.invokevirtual 82, 3) := by decide +kernel
theorem d_Pa_runRight_15 : decode c_yPa_runRight 15 = .ok (.ireturn, 1) := by decide +kernel
set_option maxHeartbeats 4000000 in
set_option maxRecDepth 100000 in
theorem c_Paper_runRight (l : Launch) (dC : Nat → ClassId) (dI : Nat → Nat → Nat) (hp hw hs hk : Nat) (cL : ClassId) (w h mn : Int) (G : Int → Int64) (pic : Int → Int → Bool) (x y i : Int) (w1 : 1 ≤ w) (w2 : w ≤ 1024) (h1 : 1 ≤ h) (h2 : h ≤ 1024) (hR : Rep G pic) (hO : Off w h pic) (x1 : 0 ≤ x) (x2 : x < w) (y1 : 0 ≤ y) (y2 : y < h) (i1 : -2147483648 ≤ i) (i2 : i ≤ 2147483647) : Met l y_Pa_runRight w_Pa_runRight ({ frames := 3, cells := 0, slots := 0, locals := 74 }) (va_Pc [.ref hp, .int (iZ x), .int (iZ y), .int (iZ i)] (zPr (dC, dI) vwCl [(hp, .inr (2, [.int (iZ w), .int (iZ h), .int (iZ mn), .ref hw, .ref hs, .ref hk])), (hw, .inl (cL, 16384, .inr (.inl (aL G))))] [(cL, .long)])) (vp_Si (fun r => r = iZ (runS (fun k => pic (x + k * 1) (y + k * 0)) (w - x) i))) 0 0 (fun _ => False) := by
  refine Met.ofW (cc := c_yPa_runRight) (maxL := 4) (ret := (some .int)) (by decide) rfl ?_
  intro p e s m args below meth c s₁ B hml hv
  obtain ⟨rfl, hP, hK⟩ := hv
  have hx := B.exec
  have hb := B.bytes
  have hr := B.returns
  have hts0 := atoms_spec (ws := w_Pa_runRight) B.pre
  have hts : ∀ w ∈ gT, w.before _ s = true := fun w h => hts0 w (List.mem_cons_of_mem _ h)
  have hown : s.vm.findClass R_Pa = some m.cls := findClass_of_methodNamed B.named
  have hlocks := B.notSynchronized
  have hl := lv_entry ([.ref hp, .int (iZ x), .int (iZ y), .int (iZ i)]) (n := 4) (Nat.le_of_ble_eq_true rfl)
  rw [lg_entry_eq]
  generalize (lg_sl ([.ref hp, .int (iZ x), .int (iZ y), .int (iZ i)]) ++ List.replicate (4 - (lg_sl ([.ref hp, .int (iZ x), .int (iZ y), .int (iZ i)])).length) Slot.unset).toArray = ls at hl ⊢
  have hl : lv_has ls 4 [(0, .ref hp), (1, .int (iZ x)), (2, .int (iZ y)), (3, .int (iZ i))] := hl
  refine lv_aload_n hx hb d_Pa_runRight_0 rfl (lv_at hl 0 rfl) ?_
  refine lv_iload_n hx hb d_Pa_runRight_1 rfl (lv_at hl 1 rfl) ?_
  refine lv_iload_n hx hb d_Pa_runRight_2 rfl (lv_at hl 2 rfl) ?_
  refine lv_iconst (v := iZ (1)) hx hb d_Pa_runRight_3 rfl ?_
  refine lv_iconst (v := iZ (0)) hx hb d_Pa_runRight_4 rfl ?_
  refine lv_aload_n hx hb d_Pa_runRight_5 rfl (lv_at hl 0 rfl) ?_
  refine va_get (D := (dC, dI)) (ci := 2) (v := .int (iZ w)) (C := R_Pa) (T := T_Pa) (N := 6) hx hb hts wi_Pa hown hK hP 0 rfl rfl 0 (by decide) (hts _ t_33) (fun _ h9 => h9) rfl d_Pa_runRight_6 ?_
  refine lv_iload_n hx hb d_Pa_runRight_9 rfl (lv_at hl 1 rfl) ?_
  refine zi_sub hx hb d_Pa_runRight_10 ?_
  refine lv_iload_n hx hb d_Pa_runRight_11 rfl (lv_at hl 3 rfl) ?_
  refine vp_callSi (va_runV (As := [.int (iZ x), .int (iZ y), .int (iZ 1), .int (iZ 0), .int (iZ (w - x)), .int (iZ i)]) (rest := []) ⟨hx, hb, hml, hown, hts⟩ (c_Paper_runLength l dC dI hp hw hs hk cL w h mn G pic x y 1 0 (w - x) i (by first | omega | assumption) (by first | omega | assumption) (by first | omega | assumption) (by first | omega | assumption) (by first | omega | assumption) (by first | omega | assumption) (by first | omega | assumption) (by first | omega | assumption) (by first | omega | assumption) (by first | omega | assumption) (by first | omega | assumption) (by first | omega | assumption) (by first | omega | assumption) (by first | omega | assumption) (by first | omega | assumption) (by first | omega | assumption) (by first | omega | assumption) (by first | omega | assumption)) (cwV 6 hts (gV t_668 t_670 s_14 t_2 t_671) rfl rfl rfl (by decide +kernel) ⟨Nat.le_of_ble_eq_true rfl, Nat.le_of_ble_eq_true rfl⟩) ⟨zPr_blind, va_recv hK hP (ci := 2) (q0 := 0) rfl rfl, zPr_pre hP hK [0, 1] [0] rfl rfl⟩ rfl rfl hl.1 rfl (lv_room (Nat.le_of_ble_eq_true rfl)) d_Pa_runRight_12 ⟨Nat.le_of_ble_eq_true rfl, Nat.le_of_ble_eq_true rfl⟩).run (fun r_12 q_12 => ?_)
  obtain rfl := q_12
  exact W.iret hx hb hr (fun t ht hW => ⟨_, rfl, rfl, ht⟩) (fun q h => nomatch h) d_Pa_runRight_15
theorem d_Pa_runDown_0 : decode c_yPa_runDown 0 = .ok (.aload_n 0, 1) := by decide +kernel
theorem d_Pa_runDown_1 : decode c_yPa_runDown 1 = .ok (.iload_n 1, 1) := by decide +kernel
theorem d_Pa_runDown_2 : decode c_yPa_runDown 2 = .ok (.iload_n 2, 1) := by decide +kernel
theorem d_Pa_runDown_3 : decode c_yPa_runDown 3 = .ok (.iconst 0, 1) := by decide +kernel
theorem d_Pa_runDown_4 : decode c_yPa_runDown 4 = .ok (.iconst 1, 1) := by decide +kernel
theorem d_Pa_runDown_5 : decode c_yPa_runDown 5 = .ok (.aload_n 0, 1) := by decide +kernel
theorem d_Pa_runDown_6 : decode c_yPa_runDown 6 = .ok (.getfield 15, 3) := by decide +kernel
theorem d_Pa_runDown_9 : decode c_yPa_runDown 9 = .ok (.iload_n 2, 1) := by decide +kernel
theorem d_Pa_runDown_10 : decode c_yPa_runDown 10 = .ok (.isub, 1) := by decide +kernel
theorem d_Pa_runDown_11 : decode c_yPa_runDown 11 = .ok (.iload_n 3, 1) := by decide +kernel
theorem d_Pa_runDown_12 : decode c_yPa_runDown 12 = .ok (.invokevirtual 82, 3) := by decide +kernel
theorem d_Pa_runDown_15 : decode c_yPa_runDown 15 = .ok (.ireturn, 1) := by decide +kernel
set_option maxHeartbeats 4000000 in
set_option maxRecDepth 100000 in
theorem c_Paper_runDown (l : Launch) (dC : Nat → ClassId) (dI : Nat → Nat → Nat) (hp hw hs hk : Nat) (cL : ClassId) (w h mn : Int) (G : Int → Int64) (pic : Int → Int → Bool) (x y i : Int) (w1 : 1 ≤ w) (w2 : w ≤ 1024) (h1 : 1 ≤ h) (h2 : h ≤ 1024) (hR : Rep G pic) (hO : Off w h pic) (x1 : 0 ≤ x) (x2 : x < w) (y1 : 0 ≤ y) (y2 : y < h) (i1 : -2147483648 ≤ i) (i2 : i ≤ 2147483647) : Met l y_Pa_runDown w_Pa_runDown ({ frames := 3, cells := 0, slots := 0, locals := 74 }) (va_Pc [.ref hp, .int (iZ x), .int (iZ y), .int (iZ i)] (zPr (dC, dI) vwCl [(hp, .inr (2, [.int (iZ w), .int (iZ h), .int (iZ mn), .ref hw, .ref hs, .ref hk])), (hw, .inl (cL, 16384, .inr (.inl (aL G))))] [(cL, .long)])) (vp_Si (fun r => r = iZ (runS (fun k => pic (x + k * 0) (y + k * 1)) (h - y) i))) 0 0 (fun _ => False) := by
  refine Met.ofW (cc := c_yPa_runDown) (maxL := 4) (ret := (some .int)) (by decide) rfl ?_
  intro p e s m args below meth c s₁ B hml hv
  obtain ⟨rfl, hP, hK⟩ := hv
  have hx := B.exec
  have hb := B.bytes
  have hr := B.returns
  have hts0 := atoms_spec (ws := w_Pa_runDown) B.pre
  have hts : ∀ w ∈ gT, w.before _ s = true := fun w h => hts0 w (List.mem_cons_of_mem _ h)
  have hown : s.vm.findClass R_Pa = some m.cls := findClass_of_methodNamed B.named
  have hlocks := B.notSynchronized
  have hl := lv_entry ([.ref hp, .int (iZ x), .int (iZ y), .int (iZ i)]) (n := 4) (Nat.le_of_ble_eq_true rfl)
  rw [lg_entry_eq]
  generalize (lg_sl ([.ref hp, .int (iZ x), .int (iZ y), .int (iZ i)]) ++ List.replicate (4 - (lg_sl ([.ref hp, .int (iZ x), .int (iZ y), .int (iZ i)])).length) Slot.unset).toArray = ls at hl ⊢
  have hl : lv_has ls 4 [(0, .ref hp), (1, .int (iZ x)), (2, .int (iZ y)), (3, .int (iZ i))] := hl
  refine lv_aload_n hx hb d_Pa_runDown_0 rfl (lv_at hl 0 rfl) ?_
  refine lv_iload_n hx hb d_Pa_runDown_1 rfl (lv_at hl 1 rfl) ?_
  refine lv_iload_n hx hb d_Pa_runDown_2 rfl (lv_at hl 2 rfl) ?_
  refine lv_iconst (v := iZ (0)) hx hb d_Pa_runDown_3 rfl ?_
  refine lv_iconst (v := iZ (1)) hx hb d_Pa_runDown_4 rfl ?_
  refine lv_aload_n hx hb d_Pa_runDown_5 rfl (lv_at hl 0 rfl) ?_
  refine va_get (D := (dC, dI)) (ci := 2) (v := .int (iZ h)) (C := R_Pa) (T := T_Pa) (N := 6) hx hb hts wi_Pa hown hK hP 0 rfl rfl 1 (by decide) (hts _ t_35) (fun _ h9 => h9) rfl d_Pa_runDown_6 ?_
  refine lv_iload_n hx hb d_Pa_runDown_9 rfl (lv_at hl 2 rfl) ?_
  refine zi_sub hx hb d_Pa_runDown_10 ?_
  refine lv_iload_n hx hb d_Pa_runDown_11 rfl (lv_at hl 3 rfl) ?_
  refine vp_callSi (va_runV (As := [.int (iZ x), .int (iZ y), .int (iZ 0), .int (iZ 1), .int (iZ (h - y)), .int (iZ i)]) (rest := []) ⟨hx, hb, hml, hown, hts⟩ (c_Paper_runLength l dC dI hp hw hs hk cL w h mn G pic x y 0 1 (h - y) i (by first | omega | assumption) (by first | omega | assumption) (by first | omega | assumption) (by first | omega | assumption) (by first | omega | assumption) (by first | omega | assumption) (by first | omega | assumption) (by first | omega | assumption) (by first | omega | assumption) (by first | omega | assumption) (by first | omega | assumption) (by first | omega | assumption) (by first | omega | assumption) (by first | omega | assumption) (by first | omega | assumption) (by first | omega | assumption) (by first | omega | assumption) (by first | omega | assumption)) (cwV 6 hts (gV t_668 t_670 s_14 t_2 t_671) rfl rfl rfl (by decide +kernel) ⟨Nat.le_of_ble_eq_true rfl, Nat.le_of_ble_eq_true rfl⟩) ⟨zPr_blind, va_recv hK hP (ci := 2) (q0 := 0) rfl rfl, zPr_pre hP hK [0, 1] [0] rfl rfl⟩ rfl rfl hl.1 rfl (lv_room (Nat.le_of_ble_eq_true rfl)) d_Pa_runDown_12 ⟨Nat.le_of_ble_eq_true rfl, Nat.le_of_ble_eq_true rfl⟩).run (fun r_12 q_12 => ?_)
  obtain rfl := q_12
  exact W.iret hx hb hr (fun t ht hW => ⟨_, rfl, rfl, ht⟩) (fun q h => nomatch h) d_Pa_runDown_15
