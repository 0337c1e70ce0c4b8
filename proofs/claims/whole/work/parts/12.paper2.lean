/-! rings, columns, rows, blocks -/
def rgB (row l r hl hr x y : Int) : Bool := decide (y = row ∧ l ≤ x ∧ x ≤ r ∧ ¬ (hl ≤ x ∧ x ≤ hr))
theorem rg_1 {row l r hl hr : Int} (h : hl > hr) (x y : Int) : bxB l row r row x y = rgB row l r hl hr x y := by
  unfold bxB rgB; exact decide_eq_decide.mpr (by omega)
theorem rg_2 {row l r hl hr : Int} (h : hl ≤ hr) (h1 : l ≤ hl) (h2 : hr ≤ r) (x y : Int) : (bxB l row (hl - 1) row x y || bxB (hr + 1) row r row x y) = rgB row l r hl hr x y := by
  unfold bxB rgB; rw [← Bool.decide_or]; exact decide_eq_decide.mpr (by omega)
theorem rg_d {row l r hl hr : Int} (h : hl ≤ hr) (x y : Int) (q : bxB l row (hl - 1) row x y = true) : bxB (hr + 1) row r row x y = false := by
  have := of_decide_eq_true q
  unfold bxB; exact decide_eq_false (by omega)
theorem drw_two {mn w h : Int} {S T U : Int → Int → Bool} {pic : Int → Int → Bool} (hd : ∀ x y, S x y = true → T x y = false) (hu : ∀ x y, (S x y || T x y) = U x y) :
    drw mn (fun x y => onB w h x y && T x y) (drw mn (fun x y => onB w h x y && S x y) pic) = drw mn (fun x y => onB w h x y && U x y) pic := by
  rw [drw_or]
  · refine drw_ext (fun x y => ?_)
    rw [← hu]; cases onB w h x y <;> simp
  · intro x y q
    rw [Bool.and_eq_true] at q
    rw [hd x y q.2, Bool.and_false]
theorem cnt_two {w h : Int} {S T U : Int → Int → Bool} (hd : ∀ x y, S x y = true → T x y = false) (hu : ∀ x y, (S x y || T x y) = U x y) : cnt w h S + cnt w h T = cnt w h U := by
  rw [← cnt_or (fun x y _ _ _ _ => hd x y)]
  exact cnt_ext (fun x y _ _ _ _ => hu x y)
theorem Rep_0 {G : Int → Int64} (h : ∀ i : Int, 0 ≤ i → i < (16384 : Nat) → G i = lZ 0) : Rep G (fun _ _ => false) := by
  intro x y x1 x2 y1 y2
  rw [h _ (by omega) (by omega)]
  exact bz_0 _
/-- the dots of a column of words, all rows in one -/
theorem col_step {G : Int → Int64} {pic : Int → Int → Bool} (hR : Rep G pic) {acc : Int64} {col row : Int} (c1 : 0 ≤ col) (c2 : col < 16) (r1 : 0 ≤ row) (r2 : row < 1024)
    (h : ∀ k : Int, 0 ≤ k → k < 64 → (bitZ acc k = true ↔ ∃ y, 0 ≤ y ∧ y < row ∧ pic (col * 64 + k) y = true)) :
    ∀ k : Int, 0 ≤ k → k < 64 → (bitZ (acc ||| G (row * 16 + col)) k = true ↔ ∃ y, 0 ≤ y ∧ y < row + 1 ∧ pic (col * 64 + k) y = true) := by
  intro k k1 k2
  have h9 := hR (col * 64 + k) row (by omega) (by omega) r1 r2
  rw [show (col * 64 + k) / 64 = col by omega, show (col * 64 + k) % 64 = k by omega] at h9
  rw [bz_or, Bool.or_eq_true, h k k1 k2, h9]
  constructor
  · rintro (⟨y, a, b, d⟩ | a)
    · exact ⟨y, a, by omega, d⟩
    · exact ⟨row, r1, by omega, a⟩
  · rintro ⟨y, a, b, d⟩
    by_cases e : y = row
    · subst e; exact Or.inr d
    · exact Or.inl ⟨y, a, by omega, d⟩
theorem row_word {G : Int → Int64} {pic : Int → Int → Bool} (hR : Rep G pic) {row col : Int} (c1 : 0 ≤ col) (c2 : col < 16) (r1 : 0 ≤ row) (r2 : row < 1024) : G (row * 16 + col) ≠ lZ 0 ↔ ∃ x, x / 64 = col ∧ pic x row = true := by
  rw [show lZ 0 = 0 from rfl]
  constructor
  · intro h
    apply Classical.byContradiction
    intro q
    apply h
    apply bz_zero.mpr
    intro k k1 k2
    have h9 := hR (col * 64 + k) row (by omega) (by omega) r1 r2
    rw [show (col * 64 + k) / 64 = col by omega, show (col * 64 + k) % 64 = k by omega] at h9
    rw [h9]
    cases e : pic (col * 64 + k) row
    · rfl
    · exact absurd ⟨col * 64 + k, by omega, e⟩ q
  · rintro ⟨x, a, b⟩ h
    have h9 := hR x row (by omega) (by omega) r1 r2
    rw [a, h, bz_0, b] at h9
    exact absurd h9 (by decide)
/-- an edge: the least row (column) with a dark dot; none: -1 -/
def edgeS (P : Int → Prop) (z : Int) : Prop := (z = -1 ∧ ∀ y, ¬ P y) ∨ (0 ≤ z ∧ P z ∧ ∀ y, P y → z ≤ y)
def edgeG (P : Int → Prop) (z : Int) : Prop := (z = -1 ∧ ∀ y, ¬ P y) ∨ (0 ≤ z ∧ P z ∧ ∀ y, P y → y ≤ z)
theorem Off_in {w h : Int} {pic : Int → Int → Bool} (hO : Off w h pic) {x y : Int} (q : pic x y = true) : 0 ≤ x ∧ x < w ∧ 0 ≤ y ∧ y < h := by
  cases e : onB w h x y
  · rw [hO x y e] at q; exact absurd q (by decide)
  · exact of_decide_eq_true e
theorem d_Pa_renew_0 : decode c_yPa_renew 0 = .ok (.aload_n 0, 1) := by decide +kernel
theorem d_Pa_renew_1 : decode c_yPa_renew 1 = .ok (.getfield 21, 3) := by decide +kernel
theorem d_Pa_renew_4 : decode c_yPa_renew 4 = .ok (.lconst 0, 1) := by decide +kernel
theorem d_Pa_renew_5 : decode c_yPa_renew 5 = .ok (.invokestatic 31, 3) := by decide +kernel
theorem d_Pa_renew_8 : decode c_yPa_renew 8 = .ok (.aload_n 0, 1) := by decide +kernel
theorem d_Pa_renew_9 : decode c_yPa_renew 9 = .ok (.iload_n 1, 1) := by decide +kernel
theorem d_Pa_renew_10 : decode c_yPa_renew 10 = .ok (.putfield 11, 3) := by decide +kernel
theorem d_Pa_renew_13 : decode c_yPa_renew 13 = .ok (.aload_n 0, 1) := by decide +kernel
theorem d_Pa_renew_14 : decode c_yPa_renew 14 = .ok (.iload_n 2, 1) := by decide +kernel
theorem d_Pa_renew_15 : decode c_yPa_renew 15 = .ok (.putfield 15, 3) := by decide +kernel
theorem d_Pa_renew_18 : decode c_yPa_renew 18 = .ok (.return_, 1) := by decide +kernel
set_option maxHeartbeats 4000000 in
set_option maxRecDepth 100000 in
theorem c_Paper_renew (l : Launch) (dC : Nat → ClassId) (dI : Nat → Nat → Nat) (hp hw hs hk : Nat) (cL : ClassId) (w h mn : Int) (G : Int → Int64) (nw nh : Int) (sz : Nat)  : Met l y_Pa_renew w_Pa_renew ({ frames := 1, cells := 0, slots := 0, locals := 24 }) (va_Pc [.ref hp, .int (iZ nw), .int (iZ nh)] (zPm (dC, dI) vwCl [(hp, .inr (2, [.int (iZ w), .int (iZ h), .int (iZ mn), .ref hw, .ref hs, .ref hk])), (hw, .inl (cL, 16384, .inr (.inl (aL G))))] [(cL, .long)] sz)) (va_Qv (fun (u : Int → Int64) => Rep u (fun _ _ => false)) (fun u => zB (dC, dI) vwCl [(cL, .long)] (va_A [(hp, .inr (2, [.int (iZ w), .int (iZ h), .int (iZ mn), .ref hw, .ref hs, .ref hk])), (hw, .inl (cL, 16384, .inr (.inl (aL G))))] sz) [(hp, .inr (2, [.int (iZ nw), .int (iZ nh), .int (iZ mn), .ref hw, .ref hs, .ref hk])), (hw, .inl (cL, 16384, .inr (.inl (aL u))))]) (va_A [(hp, .inr (2, [.int (iZ w), .int (iZ h), .int (iZ mn), .ref hw, .ref hs, .ref hk])), (hw, .inl (cL, 16384, .inr (.inl (aL G))))] sz)) 0 0 (va_A [(hp, .inr (2, [.int (iZ w), .int (iZ h), .int (iZ mn), .ref hw, .ref hs, .ref hk])), (hw, .inl (cL, 16384, .inr (.inl (aL G))))] sz) := by
  refine Met.ofW (cc := c_yPa_renew) (maxL := 3) (ret := none) (by decide) rfl ?_
  intro p e s m args below meth c s₁ B hml hv
  obtain ⟨rfl, hsz, hP, hK, hD0⟩ := hv
  have hx := B.exec
  have hb := B.bytes
  have hr := B.returns
  have hts0 := atoms_spec (ws := w_Pa_renew) B.pre
  have hts : ∀ w ∈ gT, w.before _ s = true := fun w h => hts0 w (List.mem_cons_of_mem _ h)
  have hown : s.vm.findClass R_Pa = some m.cls := findClass_of_methodNamed B.named
  have hlocks := B.notSynchronized
  subst hsz
  have hD := hD0.self (sz := s.heap.size)
  generalize hAe : va_A [(hp, .inr (2, [.int (iZ w), .int (iZ h), .int (iZ mn), .ref hw, .ref hs, .ref hk])), (hw, .inl (cL, 16384, .inr (.inl (aL G))))] s.heap.size = A at hD ⊢
  have hA : ∀ q : Nat, s.heap.size ≤ q → A q := fun q h => by rw [← hAe]; exact Or.inr h
  obtain ⟨H, hH⟩ : ∃ H, s.heap = H := ⟨_, rfl⟩
  have hS : va_S A s.heap H [] := by rw [← hH]; exact va_S.rf
  rw [hH] at hP
  rw [hH]
  have hl := lv_entry ([.ref hp, .int (iZ nw), .int (iZ nh)]) (n := 3) (Nat.le_of_ble_eq_true rfl)
  rw [lg_entry_eq]
  generalize (lg_sl ([.ref hp, .int (iZ nw), .int (iZ nh)]) ++ List.replicate (3 - (lg_sl ([.ref hp, .int (iZ nw), .int (iZ nh)])).length) Slot.unset).toArray = ls at hl ⊢
  have hl : lv_has ls 3 [(0, .ref hp), (1, .int (iZ nw)), (2, .int (iZ nh))] := hl
  refine lv_aload_n hx hb d_Pa_renew_0 rfl (lv_at hl 0 rfl) ?_
  refine va_get (D := (dC, dI)) (ci := 2) (v := .ref hw) (C := R_Pa) (T := T_Pa) (N := 6) hx hb hts wi_Pa hown hK hP 0 rfl rfl 3 (by decide) (hts _ t_39) (fun _ h9 => h9) rfl d_Pa_renew_1 ?_
  refine lv_lconst (v := lZ 0) hx hb d_Pa_renew_4 (by decide) ?_
  refine zc_v (w1 := fun u_5 => [(hw, .inl (cL, 16384, .inr (.inl (aL u_5))))]) (wr := [(hp, .inr (2, [.int (iZ w), .int (iZ h), .int (iZ mn), .ref hw, .ref hs, .ref hk]))]) (va_runS (As := [.ref hw, .long (lZ 0)]) (rest := []) ⟨hx, hb, hml, hown, hts⟩ (c_fillL l dC dI hw cL 16384 G (lZ 0) H.size (by first | omega | assumption)) (va_cwS 2 hts (gS t_228 t_229 t_11 t_230) rfl rfl rfl (by decide +kernel) ⟨Nat.le_of_ble_eq_true rfl, Nat.le_of_ble_eq_true rfl⟩) ⟨zPm_blind, zPm_pre hP hD hK [1] [0] rfl rfl rfl rfl⟩ rfl rfl hl.1 rfl (lv_room (Nat.le_of_ble_eq_true rfl)) d_Pa_renew_5 ⟨Nat.le_of_ble_eq_true rfl, Nat.le_of_ble_eq_true rfl⟩) hP hD hS hA [1] [0] rfl rfl rfl (by decide) (fun u_5 H locs q_5 hP hD hS => ?_)
  have hP : va_P (dC, dI) vwCl [(hp, .inr (2, [.int (iZ w), .int (iZ h), .int (iZ mn), .ref hw, .ref hs, .ref hk])), (hw, .inl (cL, 16384, .inr (.inl (aL u_5))))] H := hP
  have hD : va_D A [(hp, .inr (2, [.int (iZ w), .int (iZ h), .int (iZ mn), .ref hw, .ref hs, .ref hk])), (hw, .inl (cL, 16384, .inr (.inl (aL u_5))))] := hD
  refine lv_aload_n hx hb d_Pa_renew_8 rfl (lv_at hl 0 rfl) ?_
  refine lv_iload_n hx hb d_Pa_renew_9 rfl (lv_at hl 1 rfl) ?_
  refine va_put (D := (dC, dI)) (ci := 2) (v := .int (iZ nw)) (ty := .int) (C := R_Pa) (T := T_Pa) (N := 6) hx hb hts wi_Pa ty_Pa ty_Pa_ok nd_Pa hown hK hP hD hS 0 rfl rfl 0 (by decide) (hts _ t_33) (fun _ h9 => h9) rfl (by decide +kernel) rfl rfl (Nat.le_of_ble_eq_true rfl) d_Pa_renew_10 (fun H locs hP hD hS => ?_)
  have hP : va_P (dC, dI) vwCl [(hp, .inr (2, [.int (iZ nw), .int (iZ h), .int (iZ mn), .ref hw, .ref hs, .ref hk])), (hw, .inl (cL, 16384, .inr (.inl (aL u_5))))] H := hP
  have hD : va_D A [(hp, .inr (2, [.int (iZ nw), .int (iZ h), .int (iZ mn), .ref hw, .ref hs, .ref hk])), (hw, .inl (cL, 16384, .inr (.inl (aL u_5))))] := hD
  refine lv_aload_n hx hb d_Pa_renew_13 rfl (lv_at hl 0 rfl) ?_
  refine lv_iload_n hx hb d_Pa_renew_14 rfl (lv_at hl 2 rfl) ?_
  refine va_put (D := (dC, dI)) (ci := 2) (v := .int (iZ nh)) (ty := .int) (C := R_Pa) (T := T_Pa) (N := 6) hx hb hts wi_Pa ty_Pa ty_Pa_ok nd_Pa hown hK hP hD hS 0 rfl rfl 1 (by decide) (hts _ t_35) (fun _ h9 => h9) rfl (by decide +kernel) rfl rfl (Nat.le_of_ble_eq_true rfl) d_Pa_renew_15 (fun H locs hP hD hS => ?_)
  have hP : va_P (dC, dI) vwCl [(hp, .inr (2, [.int (iZ nw), .int (iZ nh), .int (iZ mn), .ref hw, .ref hs, .ref hk])), (hw, .inl (cL, 16384, .inr (.inl (aL u_5))))] H := hP
  have hD : va_D A [(hp, .inr (2, [.int (iZ nw), .int (iZ nh), .int (iZ mn), .ref hw, .ref hs, .ref hk])), (hw, .inl (cL, 16384, .inr (.inl (aL u_5))))] := hD
  exact W.vret hx hb hr (fun t ht hW => ⟨⟨u_5, rfl, Rep_0 q_5, by rw [ht]; exact hP, va_K.moved hW.alike hK, hD⟩, hS.F ht⟩) hS.2.2 d_Pa_renew_18
theorem d_Pa_drawRing_0 : decode c_yPa_drawRing 0 = .ok (.iload 4, 2) := by decide +kernel
theorem d_Pa_drawRing_2 : decode c_yPa_drawRing 2 = .ok (.iload 5, 2) := by decide +kernel
theorem d_Pa_drawRing_4 : decode c_yPa_drawRing 4 = .ok (.if_icmp .le 12, 3) := by decide +kernel
theorem d_Pa_drawRing_7 : decode c_yPa_drawRing 7 = .ok (.aload_n 0, 1) := by decide +kernel
theorem d_Pa_drawRing_8 : decode c_yPa_drawRing 8 = .ok (.iload_n 2, 1) := by decide +kernel
theorem d_Pa_drawRing_9 : decode c_yPa_drawRing 9 = .ok (.iload_n 1, 1) := by decide +kernel
theorem d_Pa_drawRing_10 : decode c_yPa_drawRing 10 = .ok (.iload_n 3, 1) := by decide +kernel
theorem d_Pa_drawRing_11 : decode c_yPa_drawRing 11 = .ok (.iload_n 1, 1) := by decide +kernel
theorem d_Pa_drawRing_12 : decode c_yPa_drawRing 12 = .ok (.invokevirtual 58, 3) := by decide +kernel
theorem d_Pa_drawRing_15 : decode c_yPa_drawRing 15 = .ok (.ireturn, 1) := by decide +kernel
theorem d_Pa_drawRing_16 : decode c_yPa_drawRing 16 = .ok (.aload_n 0, 1) := by decide +kernel
theorem d_Pa_drawRing_17 : decode c_yPa_drawRing 17 = .ok (.iload_n 2, 1) := by decide +kernel
theorem d_Pa_drawRing_18 : decode c_yPa_drawRing 18 = .ok (.iload_n 1, 1) := by decide +kernel
theorem d_Pa_drawRing_19 : decode c_yPa_drawRing 19 = .ok (.iload 4, 2) := by decide +kernel
theorem d_Pa_drawRing_21 : decode c_yPa_drawRing 21 = .ok (.iconst 1, 1) := by decide +kernel
theorem d_Pa_drawRing_22 : decode c_yPa_drawRing 22 = .ok (.isub, 1) := by decide +kernel
theorem d_Pa_drawRing_23 : decode c_yPa_drawRing 23 = .ok (.iload_n 1, 1) := by decide +kernel
theorem d_Pa_drawRing_24 : decode c_yPa_drawRing 24 = .ok (.invokevirtual 58, 3) := by decide +kernel
theorem d_Pa_drawRing_27 : decode c_yPa_drawRing 27 = .ok (.aload_n 0, 1) := by decide +kernel
theorem d_Pa_drawRing_28 : decode c_yPa_drawRing 28 = .ok (.iload 5, 2) := by decide +kernel
theorem d_Pa_drawRing_30 : decode c_yPa_drawRing 30 = .ok (.iconst 1, 1) := by decide +kernel
theorem d_Pa_drawRing_31 : decode c_yPa_drawRing 31 = .ok (.iadd, 1) := by decide +kernel
theorem d_Pa_drawRing_32 : decode c_yPa_drawRing 32 = .ok (.iload_n 1, 1) := by decide +kernel
theorem d_Pa_drawRing_33 : decode c_yPa_drawRing 33 = .ok (.iload_n 3, 1) := by decide +kernel
theorem d_Pa_drawRing_34 : decode c_yPa_drawRing 34 = .ok (.iload_n 1, 1) := by decide +kernel
theorem d_Pa_drawRing_35 : decode c_yPa_drawRing 35 = .ok (.invokevirtual 58, 3) := by decide +kernel
theorem d_Pa_drawRing_38 : decode c_yPa_drawRing 38 = .ok (.iadd, 1) := by decide +kernel
theorem d_Pa_drawRing_39 : decode c_yPa_drawRing 39 = .ok (.ireturn, 1) := by decide +kernel
set_option maxHeartbeats 4000000 in
set_option maxRecDepth 100000 in
theorem c_Paper_drawRing (l : Launch) (dC : Nat → ClassId) (dI : Nat → Nat → Nat) (hp hw hs hk : Nat) (cL : ClassId) (w h mn : Int) (G : Int → Int64) (pic : Int → Int → Bool) (row lf rt il ir : Int) (sz : Nat) (w1 : 1 ≤ w) (w2 : w ≤ 1024) (h1 : 1 ≤ h) (h2 : h ≤ 1024) (mn1 : 0 ≤ mn) (mn2 : mn ≤ 2) (row1 : -536870912 ≤ row) (lf1 : -536870912 ≤ lf) (rt1 : -536870912 ≤ rt) (il1 : -536870912 ≤ il) (ir1 : -536870912 ≤ ir) (row2 : row ≤ 536870912) (lf2 : lf ≤ 536870912) (rt2 : rt ≤ 536870912) (il2 : il ≤ 536870912) (ir2 : ir ≤ 536870912) (hh : il ≤ ir → lf ≤ il ∧ ir ≤ rt) (hR : Rep G pic) : Met l y_Pa_drawRing w_Pa_drawRing ({ frames := 3, cells := 0, slots := 0, locals := 77 }) (va_Pc [.ref hp, .int (iZ row), .int (iZ lf), .int (iZ rt), .int (iZ il), .int (iZ ir)] (zPm (dC, dI) vwCl [(hp, .inr (2, [.int (iZ w), .int (iZ h), .int (iZ mn), .ref hw, .ref hs, .ref hk])), (hw, .inl (cL, 16384, .inr (.inl (aL G))))] [(cL, .long)] sz)) (va_Qi (fun (r : Int32) (u : Int → Int64) => r = iZ (cnt w h (rgB row lf rt il ir)) ∧ Rep u (drw mn (fun x y => onB w h x y && rgB row lf rt il ir x y) pic)) (fun u => zB (dC, dI) vwCl [(cL, .long)] (va_A [(hp, .inr (2, [.int (iZ w), .int (iZ h), .int (iZ mn), .ref hw, .ref hs, .ref hk])), (hw, .inl (cL, 16384, .inr (.inl (aL G))))] sz) [(hp, .inr (2, [.int (iZ w), .int (iZ h), .int (iZ mn), .ref hw, .ref hs, .ref hk])), (hw, .inl (cL, 16384, .inr (.inl (aL u))))]) (va_A [(hp, .inr (2, [.int (iZ w), .int (iZ h), .int (iZ mn), .ref hw, .ref hs, .ref hk])), (hw, .inl (cL, 16384, .inr (.inl (aL G))))] sz)) 0 0 (va_A [(hp, .inr (2, [.int (iZ w), .int (iZ h), .int (iZ mn), .ref hw, .ref hs, .ref hk])), (hw, .inl (cL, 16384, .inr (.inl (aL G))))] sz) := by
  refine Met.ofW (cc := c_yPa_drawRing) (maxL := 6) (ret := (some .int)) (by decide) rfl ?_
  intro p e s m args below meth c s₁ B hml hv
  obtain ⟨rfl, hsz, hP, hK, hD0⟩ := hv
  have hx := B.exec
  have hb := B.bytes
  have hr := B.returns
  have hts0 := atoms_spec (ws := w_Pa_drawRing) B.pre
  have hts : ∀ w ∈ gT, w.before _ s = true := fun w h => hts0 w (List.mem_cons_of_mem _ h)
  have hown : s.vm.findClass R_Pa = some m.cls := findClass_of_methodNamed B.named
  have hlocks := B.notSynchronized
  subst hsz
  have hD := hD0.self (sz := s.heap.size)
  generalize hAe : va_A [(hp, .inr (2, [.int (iZ w), .int (iZ h), .int (iZ mn), .ref hw, .ref hs, .ref hk])), (hw, .inl (cL, 16384, .inr (.inl (aL G))))] s.heap.size = A at hD ⊢
  have hA : ∀ q : Nat, s.heap.size ≤ q → A q := fun q h => by rw [← hAe]; exact Or.inr h
  obtain ⟨H, hH⟩ : ∃ H, s.heap = H := ⟨_, rfl⟩
  have hS : va_S A s.heap H [] := by rw [← hH]; exact va_S.rf
  rw [hH] at hP
  rw [hH]
  have hl := lv_entry ([.ref hp, .int (iZ row), .int (iZ lf), .int (iZ rt), .int (iZ il), .int (iZ ir)]) (n := 6) (Nat.le_of_ble_eq_true rfl)
  rw [lg_entry_eq]
  generalize (lg_sl ([.ref hp, .int (iZ row), .int (iZ lf), .int (iZ rt), .int (iZ il), .int (iZ ir)]) ++ List.replicate (6 - (lg_sl ([.ref hp, .int (iZ row), .int (iZ lf), .int (iZ rt), .int (iZ il), .int (iZ ir)])).length) Slot.unset).toArray = ls at hl ⊢
  have hl : lv_has ls 6 [(0, .ref hp), (1, .int (iZ row)), (2, .int (iZ lf)), (3, .int (iZ rt)), (4, .int (iZ il)), (5, .int (iZ ir))] := hl
  refine lv_iload hx hb d_Pa_drawRing_0 (lv_at hl 4 rfl) ?_
  refine lv_iload hx hb d_Pa_drawRing_2 (lv_at hl 5 rfl) ?_
  refine zi_le (tgt := 16) hx hb d_Pa_drawRing_4 (by decide) (by omega) (by omega) (by omega) (by omega) (fun c_4 => ?_) (fun c_4 => ?_)
  · refine lv_aload_n hx hb d_Pa_drawRing_16 rfl (lv_at hl 0 rfl) ?_
    refine lv_iload_n hx hb d_Pa_drawRing_17 rfl (lv_at hl 2 rfl) ?_
    refine lv_iload_n hx hb d_Pa_drawRing_18 rfl (lv_at hl 1 rfl) ?_
    refine lv_iload hx hb d_Pa_drawRing_19 (lv_at hl 4 rfl) ?_
    refine lv_iconst (v := iZ (1)) hx hb d_Pa_drawRing_21 rfl ?_
    refine zi_sub hx hb d_Pa_drawRing_22 ?_
    refine lv_iload_n hx hb d_Pa_drawRing_23 rfl (lv_at hl 1 rfl) ?_
    refine zc_i (w1 := fun u_24 => [(hp, .inr (2, [.int (iZ w), .int (iZ h), .int (iZ mn), .ref hw, .ref hs, .ref hk])), (hw, .inl (cL, 16384, .inr (.inl (aL u_24))))]) (wr := []) (va_runV (As := [.int (iZ lf), .int (iZ row), .int (iZ (il - 1)), .int (iZ row)]) (rest := []) ⟨hx, hb, hml, hown, hts⟩ (c_Paper_drawBox l dC dI hp hw hs hk cL w h mn G pic lf row (il - 1) row H.size (by first | omega | assumption) (by first | omega | assumption) (by first | omega | assumption) (by first | omega | assumption) (by first | omega | assumption) (by first | omega | assumption) (by first | omega | assumption) (by first | omega | assumption) (by first | omega | assumption) (by first | omega | assumption) (by first | omega | assumption) (by first | omega | assumption) (by first | omega | assumption) (by first | omega | assumption) (by first | omega | assumption)) (cwV 4 hts (gV t_278 t_279 t_280 t_2 t_281) rfl rfl rfl (by decide +kernel) ⟨Nat.le_of_ble_eq_true rfl, Nat.le_of_ble_eq_true rfl⟩) ⟨zPm_blind, va_recv hK hP (ci := 2) (q0 := 0) rfl rfl, zPm_pre hP hD hK [0, 1] [0] rfl rfl rfl rfl⟩ rfl rfl hl.1 rfl (lv_room (Nat.le_of_ble_eq_true rfl)) d_Pa_drawRing_24 ⟨Nat.le_of_ble_eq_true rfl, Nat.le_of_ble_eq_true rfl⟩) hP hD hS hA [0, 1] [] rfl rfl rfl (by decide) (fun r_24 u_24 H locs q_24 hP hD hS => ?_)
    have hP : va_P (dC, dI) vwCl [(hp, .inr (2, [.int (iZ w), .int (iZ h), .int (iZ mn), .ref hw, .ref hs, .ref hk])), (hw, .inl (cL, 16384, .inr (.inl (aL u_24))))] H := hP
    have hD : va_D A [(hp, .inr (2, [.int (iZ w), .int (iZ h), .int (iZ mn), .ref hw, .ref hs, .ref hk])), (hw, .inl (cL, 16384, .inr (.inl (aL u_24))))] := hD
    obtain ⟨rfl, q_24⟩ := q_24
    refine lv_aload_n hx hb d_Pa_drawRing_27 rfl (lv_at hl 0 rfl) ?_
    refine lv_iload hx hb d_Pa_drawRing_28 (lv_at hl 5 rfl) ?_
    refine lv_iconst (v := iZ (1)) hx hb d_Pa_drawRing_30 rfl ?_
    refine zi_add hx hb d_Pa_drawRing_31 ?_
    refine lv_iload_n hx hb d_Pa_drawRing_32 rfl (lv_at hl 1 rfl) ?_
    refine lv_iload_n hx hb d_Pa_drawRing_33 rfl (lv_at hl 3 rfl) ?_
    refine lv_iload_n hx hb d_Pa_drawRing_34 rfl (lv_at hl 1 rfl) ?_
    refine zc_i (w1 := fun u_35 => [(hp, .inr (2, [.int (iZ w), .int (iZ h), .int (iZ mn), .ref hw, .ref hs, .ref hk])), (hw, .inl (cL, 16384, .inr (.inl (aL u_35))))]) (wr := []) (va_runV (As := [.int (iZ (ir + 1)), .int (iZ row), .int (iZ rt), .int (iZ row)]) (rest := [.int (iZ (boxN w h lf row (il - 1) row))]) ⟨hx, hb, hml, hown, hts⟩ (c_Paper_drawBox l dC dI hp hw hs hk cL w h mn u_24 (drw mn (fun x y => onB w h x y && bxB lf row (il - 1) row x y) pic) (ir + 1) row rt row H.size (by first | omega | assumption) (by first | omega | assumption) (by first | omega | assumption) (by first | omega | assumption) (by first | omega | assumption) (by first | omega | assumption) (by first | omega | assumption) (by first | omega | assumption) (by first | omega | assumption) (by first | omega | assumption) (by first | omega | assumption) (by first | omega | assumption) (by first | omega | assumption) (by first | omega | assumption) (by first | omega | assumption)) (cwV 4 hts (gV t_278 t_279 t_280 t_2 t_281) rfl rfl rfl (by decide +kernel) ⟨Nat.le_of_ble_eq_true rfl, Nat.le_of_ble_eq_true rfl⟩) ⟨zPm_blind, va_recv hK hP (ci := 2) (q0 := 0) rfl rfl, zPm_pre hP hD hK [0, 1] [0] rfl rfl rfl rfl⟩ rfl rfl hl.1 rfl (lv_room (Nat.le_of_ble_eq_true rfl)) d_Pa_drawRing_35 ⟨Nat.le_of_ble_eq_true rfl, Nat.le_of_ble_eq_true rfl⟩) hP hD hS hA [0, 1] [] rfl rfl rfl (by decide) (fun r_35 u_35 H locs q_35 hP hD hS => ?_)
    have hP : va_P (dC, dI) vwCl [(hp, .inr (2, [.int (iZ w), .int (iZ h), .int (iZ mn), .ref hw, .ref hs, .ref hk])), (hw, .inl (cL, 16384, .inr (.inl (aL u_35))))] H := hP
    have hD : va_D A [(hp, .inr (2, [.int (iZ w), .int (iZ h), .int (iZ mn), .ref hw, .ref hs, .ref hk])), (hw, .inl (cL, 16384, .inr (.inl (aL u_35))))] := hD
    obtain ⟨rfl, q_35⟩ := q_35
    refine zi_add hx hb d_Pa_drawRing_38 ?_
    exact W.iret hx hb hr (fun t ht hW => ⟨⟨_, u_35, rfl, ⟨congrArg iZ (by rw [boxN_cnt w1 h1, boxN_cnt w1 h1]; exact cnt_two (rg_d (by omega)) (rg_2 (by omega) (by omega) (by omega))), by rw [← drw_two (rg_d (by omega)) (rg_2 (by omega) (hh (by omega)).1 (hh (by omega)).2)]; exact q_35⟩, by rw [ht]; exact hP, va_K.moved hW.alike hK, hD⟩, hS.F ht⟩) hS.2.2 d_Pa_drawRing_39
  · refine lv_aload_n hx hb d_Pa_drawRing_7 rfl (lv_at hl 0 rfl) ?_
    refine lv_iload_n hx hb d_Pa_drawRing_8 rfl (lv_at hl 2 rfl) ?_
    refine lv_iload_n hx hb d_Pa_drawRing_9 rfl (lv_at hl 1 rfl) ?_
    refine lv_iload_n hx hb d_Pa_drawRing_10 rfl (lv_at hl 3 rfl) ?_
    refine lv_iload_n hx hb d_Pa_drawRing_11 rfl (lv_at hl 1 rfl) ?_
    refine zc_i (w1 := fun u_12 => [(hp, .inr (2, [.int (iZ w), .int (iZ h), .int (iZ mn), .ref hw, .ref hs, .ref hk])), (hw, .inl (cL, 16384, .inr (.inl (aL u_12))))]) (wr := []) (va_runV (As := [.int (iZ lf), .int (iZ row), .int (iZ rt), .int (iZ row)]) (rest := []) ⟨hx, hb, hml, hown, hts⟩ (c_Paper_drawBox l dC dI hp hw hs hk cL w h mn G pic lf row rt row H.size (by first | omega | assumption) (by first | omega | assumption) (by first | omega | assumption) (by first | omega | assumption) (by first | omega | assumption) (by first | omega | assumption) (by first | omega | assumption) (by first | omega | assumption) (by first | omega | assumption) (by first | omega | assumption) (by first | omega | assumption) (by first | omega | assumption) (by first | omega | assumption) (by first | omega | assumption) (by first | omega | assumption)) (cwV 4 hts (gV t_278 t_279 t_280 t_2 t_281) rfl rfl rfl (by decide +kernel) ⟨Nat.le_of_ble_eq_true rfl, Nat.le_of_ble_eq_true rfl⟩) ⟨zPm_blind, va_recv hK hP (ci := 2) (q0 := 0) rfl rfl, zPm_pre hP hD hK [0, 1] [0] rfl rfl rfl rfl⟩ rfl rfl hl.1 rfl (lv_room (Nat.le_of_ble_eq_true rfl)) d_Pa_drawRing_12 ⟨Nat.le_of_ble_eq_true rfl, Nat.le_of_ble_eq_true rfl⟩) hP hD hS hA [0, 1] [] rfl rfl rfl (by decide) (fun r_12 u_12 H locs q_12 hP hD hS => ?_)
    have hP : va_P (dC, dI) vwCl [(hp, .inr (2, [.int (iZ w), .int (iZ h), .int (iZ mn), .ref hw, .ref hs, .ref hk])), (hw, .inl (cL, 16384, .inr (.inl (aL u_12))))] H := hP
    have hD : va_D A [(hp, .inr (2, [.int (iZ w), .int (iZ h), .int (iZ mn), .ref hw, .ref hs, .ref hk])), (hw, .inl (cL, 16384, .inr (.inl (aL u_12))))] := hD
    obtain ⟨rfl, q_12⟩ := q_12
    exact W.iret hx hb hr (fun t ht hW => ⟨⟨_, u_12, rfl, ⟨congrArg iZ (by rw [boxN_cnt w1 h1]; exact cnt_ext (fun x y _ _ _ _ => rg_1 (by omega) x y)), by rw [show (fun x y => onB w h x y && rgB row lf rt il ir x y) = (fun x y => onB w h x y && bxB lf row rt row x y) from funext (fun x => funext (fun y => by rw [rg_1 (hl := il) (hr := ir) (by omega) x y]))]; exact q_12⟩, by rw [ht]; exact hP, va_K.moved hW.alike hK, hD⟩, hS.F ht⟩) hS.2.2 d_Pa_drawRing_15
theorem d_Pa_allOfColumn_0 : decode c_yPa_allOfColumn 0 = .ok (.lconst 0, 1) := by decide +kernel
theorem d_Pa_allOfColumn_1 : decode c_yPa_allOfColumn 1 = .ok (.lstore_n 2, 1) := by decide +kernel
theorem d_Pa_allOfColumn_2 : decode c_yPa_allOfColumn 2 = .ok (.iconst 0, 1) := by decide +kernel
theorem d_Pa_allOfColumn_3 : decode c_yPa_allOfColumn 3 = .ok (.istore 4, 2) := by decide +kernel
theorem d_Pa_allOfColumn_5 : decode c_yPa_allOfColumn 5 = .ok (.iload 4, 2) := by decide +kernel
theorem d_Pa_allOfColumn_7 : decode c_yPa_allOfColumn 7 = .ok (.aload_n 0, 1) := by decide +kernel
theorem d_Pa_allOfColumn_8 : decode c_yPa_allOfColumn 8 = .ok (.getfield 15, 3) := by decide +kernel
theorem d_Pa_allOfColumn_11 : decode c_yPa_allOfColumn 11 = .ok (.if_icmp .ge 24, 3) := by decide +kernel
theorem d_Pa_allOfColumn_14 : decode c_yPa_allOfColumn 14 = .ok (.lload_n 2, 1) := by decide +kernel
theorem d_Pa_allOfColumn_15 : decode c_yPa_allOfColumn 15 = .ok (.aload_n 0, 1) := by decide +kernel
theorem d_Pa_allOfColumn_16 : decode c_yPa_allOfColumn 16 = .ok (.getfield 21, 3) := by decide +kernel
theorem d_Pa_allOfColumn_19 : decode c_yPa_allOfColumn 19 = .ok (.iload 4, 2) := by decide +kernel
theorem d_Pa_allOfColumn_21 : decode c_yPa_allOfColumn 21 = .ok (.bipush 16, 2) := by decide +kernel
theorem d_Pa_allOfColumn_23 : decode c_yPa_allOfColumn 23 = .ok (.imul, 1) := by decide +kernel
theorem d_Pa_allOfColumn_24 : decode c_yPa_allOfColumn 24 = .ok (.iload_n 1, 1) := by decide +kernel
theorem d_Pa_allOfColumn_25 : decode c_yPa_allOfColumn 25 = .ok (.iadd, 1) := by decide +kernel
theorem d_Pa_allOfColumn_26 : decode c_yPa_allOfColumn 26 = .ok (.laload, 1) := by decide +kernel
theorem d_Pa_allOfColumn_27 : decode c_yPa_allOfColumn 27 = .ok (.lor, 1) := by decide +kernel
theorem d_Pa_allOfColumn_28 : decode c_yPa_allOfColumn 28 = .ok (.lstore_n 2, 1) := by decide +kernel
theorem d_Pa_allOfColumn_29 : decode c_yPa_allOfColumn 29 = .ok (.iinc 4 1, 3) := by decide +kernel
theorem d_Pa_allOfColumn_32 : decode c_yPa_allOfColumn 32 = .ok (.goto (-27), 3) := by decide +kernel
theorem d_Pa_allOfColumn_35 : decode c_yPa_allOfColumn 35 = .ok (.lload_n 2, 1) := by decide +kernel
theorem d_Pa_allOfColumn_36 : decode c_yPa_allOfColumn 36 = .ok (.lreturn, 1) := by decide +kernel
set_option maxHeartbeats 4000000 in
set_option maxRecDepth 100000 in
theorem c_Paper_allOfColumn (l : Launch) (dC : Nat → ClassId) (dI : Nat → Nat → Nat) (hp hw hs hk : Nat) (cL : ClassId) (w h mn : Int) (G : Int → Int64) (pic : Int → Int → Bool) (col : Int) (w1 : 1 ≤ w) (w2 : w ≤ 1024) (h1 : 1 ≤ h) (h2 : h ≤ 1024) (c1 : 0 ≤ col) (c2 : col < 16) (hR : Rep G pic) : Met l y_Pa_allOfColumn w_Pa_allOfColumn ({ frames := 0, cells := 0, slots := 0, locals := 0 }) (va_Pc [.ref hp, .int (iZ col)] (zPr (dC, dI) vwCl [(hp, .inr (2, [.int (iZ w), .int (iZ h), .int (iZ mn), .ref hw, .ref hs, .ref hk])), (hw, .inl (cL, 16384, .inr (.inl (aL G))))] [(cL, .long)])) (vp_Sl (fun r => ∀ k : Int, 0 ≤ k → k < 64 → (bitZ r k = true ↔ ∃ y, 0 ≤ y ∧ y < h ∧ pic (col * 64 + k) y = true))) 0 0 (fun _ => False) := by
  refine Met.ofW (cc := c_yPa_allOfColumn) (maxL := 5) (ret := (some .long)) (by decide) rfl ?_
  intro p e s m args below meth c s₁ B hml hv
  obtain ⟨rfl, hP, hK⟩ := hv
  have hx := B.exec
  have hb := B.bytes
  have hr := B.returns
  have hts0 := atoms_spec (ws := w_Pa_allOfColumn) B.pre
  have hts : ∀ w ∈ gT, w.before _ s = true := fun w h => hts0 w (List.mem_cons_of_mem _ h)
  have hown : s.vm.findClass R_Pa = some m.cls := findClass_of_methodNamed B.named
  have hlocks := B.notSynchronized
  have hl := lv_entry ([.ref hp, .int (iZ col)]) (n := 5) (Nat.le_of_ble_eq_true rfl)
  rw [lg_entry_eq]
  generalize (lg_sl ([.ref hp, .int (iZ col)]) ++ List.replicate (5 - (lg_sl ([.ref hp, .int (iZ col)])).length) Slot.unset).toArray = ls at hl ⊢
  have hl : lv_has ls 5 [(0, .ref hp), (1, .int (iZ col))] := hl
  refine lv_lconst (v := lZ 0) hx hb d_Pa_allOfColumn_0 (by decide) ?_
  refine lv_lstore_n (lv' := [(2, .long (lZ 0)), (0, .ref hp), (1, .int (iZ col))]) hx hb d_Pa_allOfColumn_1 rfl hl (by decide) rfl (fun ls hl => ?_)
  refine lv_iconst (v := iZ (0)) hx hb d_Pa_allOfColumn_2 rfl ?_
  refine lv_istore (lv' := [(4, .int (iZ 0)), (2, .long (lZ 0)), (0, .ref hp), (1, .int (iZ col))]) hx hb d_Pa_allOfColumn_3 hl (by decide) rfl (fun ls hl => ?_)
  have LP_5 : ∀ (n_5 : Nat) (row : Int) (acc : Int64), (0 ≤ row) → (row ≤ h) → (∀ k : Int, 0 ≤ k → k < 64 → (bitZ acc k = true ↔ ∃ y, 0 ≤ y ∧ y < row ∧ pic (col * 64 + k) y = true)) → (h - row).toNat < n_5 → ∀ (ls : Array Slot), lv_has ls 5 [(0, .ref hp), (1, .int (iZ col)), (2, .long acc), (4, .int (iZ row))] → W p l e ({ frames := 0, cells := 0, slots := 0, locals := 0 } : Room) s m ([.ref hp, .int (iZ col)] : List Value).toArray below meth c s.heap [] 0 0 (MQ below (vp_Sl (fun r => ∀ k : Int, 0 ≤ k → k < 64 → (bitZ r k = true ↔ ∃ y, 0 ≤ y ∧ y < h ∧ pic (col * 64 + k) y = true))) ([.ref hp, .int (iZ col)] : List Value).toArray s 0 0 (fun _ => False)) (F0 m 5 ls []) := by
    intro n_5
    induction n_5 with
    | zero => intro row acc i1 i2 i3 hm; exact absurd hm (by omega)
    | succ n_5 ih_5 =>
      intro row acc i1 i2 i3 hm_5 ls hl
      refine lv_iload hx hb d_Pa_allOfColumn_5 (lv_at hl 3 rfl) ?_
      refine lv_aload_n hx hb d_Pa_allOfColumn_7 rfl (lv_at hl 0 rfl) ?_
      refine va_get (D := (dC, dI)) (ci := 2) (v := .int (iZ h)) (C := R_Pa) (T := T_Pa) (N := 6) hx hb hts wi_Pa hown hK hP 0 rfl rfl 1 (by decide) (hts _ t_35) (fun _ h9 => h9) rfl d_Pa_allOfColumn_8 ?_
      refine zi_ge (tgt := 35) hx hb d_Pa_allOfColumn_11 (by decide) (by omega) (by omega) (by omega) (by omega) (fun c_11 => ?_) (fun c_11 => ?_)
      · refine lv_lload_n hx hb d_Pa_allOfColumn_35 rfl (lv_at hl 2 rfl) ?_
        exact W.lret hx hb hr (fun t ht hW => ⟨_, rfl, fun k k1 k2 => by rw [i3 k k1 k2]; exact ⟨fun ⟨y, a, b, d⟩ => ⟨y, a, by omega, d⟩, fun ⟨y, a, b, d⟩ => ⟨y, a, by omega, d⟩⟩, ht⟩) (fun q h => nomatch h) d_Pa_allOfColumn_36
      · refine lv_lload_n hx hb d_Pa_allOfColumn_14 rfl (lv_at hl 2 rfl) ?_
        refine lv_aload_n hx hb d_Pa_allOfColumn_15 rfl (lv_at hl 0 rfl) ?_
        refine va_get (D := (dC, dI)) (ci := 2) (v := .ref hw) (C := R_Pa) (T := T_Pa) (N := 6) hx hb hts wi_Pa hown hK hP 0 rfl rfl 3 (by decide) (hts _ t_39) (fun _ h9 => h9) rfl d_Pa_allOfColumn_16 ?_
        refine lv_iload hx hb d_Pa_allOfColumn_19 (lv_at hl 3 rfl) ?_
        refine lv_bipush (v := iZ (16)) hx hb d_Pa_allOfColumn_21 (by decide) ?_
        refine zi_mul hx hb d_Pa_allOfColumn_23 ?_
        refine lv_iload_n hx hb d_Pa_allOfColumn_24 rfl (lv_at hl 1 rfl) ?_
        refine zi_add hx hb d_Pa_allOfColumn_25 ?_
        refine z_lald hx hb hK hP 1 0 rfl rfl (by omega) (by omega) (by omega) d_Pa_allOfColumn_26 ?_
        refine lv_lor hx hb d_Pa_allOfColumn_27 ?_
        refine lv_topl (fun v2_28 e_v2_28 => ?_)
        refine lv_lstore_n (lv' := [(2, .long v2_28), (0, .ref hp), (1, .int (iZ col)), (4, .int (iZ row))]) hx hb d_Pa_allOfColumn_28 rfl hl (by decide) rfl (fun ls hl => ?_)
        refine lv_iinc (v := iZ (row + 1)) (lv' := [(4, .int (iZ (row + 1))), (2, .long v2_28), (0, .ref hp), (1, .int (iZ col))]) hx hb d_Pa_allOfColumn_29 hl (k := 3) rfl (iZ_add _ _) (by decide) rfl (fun ls hl => ?_)
        refine lv_goto (tgt := 5) hx hb d_Pa_allOfColumn_32 (by decide) ?_
        exact ih_5 (row + 1) v2_28 (by omega) (by omega) (by rw [e_v2_28]; exact col_step hR c1 c2 i1 (by omega) i3) (by omega) ls (lv_sub hl [2, 3, 1, 0] rfl)
  exact LP_5 _ 0 (lZ 0) (by omega) (by omega) (fun k k1 k2 => ⟨fun q => absurd q (by rw [show lZ 0 = 0 from rfl, bz_0]; decide), fun ⟨y, a, b, _⟩ => absurd b (by omega)⟩) (Nat.lt_succ_self _) ls (lv_sub hl [2, 3, 1, 0] rfl)
theorem d_Pa_hasDarkInRow_0 : decode c_yPa_hasDarkInRow 0 = .ok (.iconst 0, 1) := by decide +kernel
theorem d_Pa_hasDarkInRow_1 : decode c_yPa_hasDarkInRow 1 = .ok (.istore_n 2, 1) := by decide +kernel
theorem d_Pa_hasDarkInRow_2 : decode c_yPa_hasDarkInRow 2 = .ok (.iload_n 2, 1) := by decide +kernel
theorem d_Pa_hasDarkInRow_3 : decode c_yPa_hasDarkInRow 3 = .ok (.bipush 16, 2) := by decide +kernel
theorem d_Pa_hasDarkInRow_5 : decode c_yPa_hasDarkInRow 5 = .ok (.if_icmp .ge 27, 3) := by decide +kernel
theorem d_Pa_hasDarkInRow_8 : decode c_yPa_hasDarkInRow 8 = .ok (.aload_n 0, 1) := by decide +kernel
theorem d_Pa_hasDarkInRow_9 : decode c_yPa_hasDarkInRow 9 = .ok (.getfield 21, 3) := by decide +kernel
theorem d_Pa_hasDarkInRow_12 : decode c_yPa_hasDarkInRow 12 = .ok (.iload_n 1, 1) := by decide +kernel
theorem d_Pa_hasDarkInRow_13 : decode c_yPa_hasDarkInRow 13 = .ok (.bipush 16, 2) := by decide +kernel
theorem d_Pa_hasDarkInRow_15 : decode c_yPa_hasDarkInRow 15 = .ok (.imul, 1) := by decide +kernel
theorem d_Pa_hasDarkInRow_16 : decode c_yPa_hasDarkInRow 16 = .ok (.iload_n 2, 1) := by decide +kernel
theorem d_Pa_hasDarkInRow_17 : decode c_yPa_hasDarkInRow 17 = .ok (.iadd, 1) := by decide +kernel
theorem d_Pa_hasDarkInRow_18 : decode c_yPa_hasDarkInRow 18 = .ok (.laload, 1) := by decide +kernel
theorem d_Pa_hasDarkInRow_19 : decode c_yPa_hasDarkInRow 19 = .ok (.lconst 0, 1) := by decide +kernel
theorem d_Pa_hasDarkInRow_20 : decode c_yPa_hasDarkInRow 20 = .ok (.lcmp, 1) := by decide +kernel
theorem d_Pa_hasDarkInRow_21 : decode c_yPa_hasDarkInRow 21 = .ok (.ifCond .eq 5, 3) := by decide +kernel
theorem d_Pa_hasDarkInRow_24 : decode c_yPa_hasDarkInRow 24 = .ok (.iconst 1, 1) := by decide +kernel
theorem d_Pa_hasDarkInRow_25 : decode c_yPa_hasDarkInRow 25 = .ok (.ireturn, 1) := by decide +kernel
theorem d_Pa_hasDarkInRow_26 : decode c_yPa_hasDarkInRow 26 = .ok (.iinc 2 1, 3) := by decide +kernel
theorem d_Pa_hasDarkInRow_29 : decode c_yPa_hasDarkInRow 29 = .ok (.goto (-27), 3) := by decide +kernel
theorem d_Pa_hasDarkInRow_32 : decode c_yPa_hasDarkInRow 32 = .ok (.iconst 0, 1) := by decide +kernel
theorem d_Pa_hasDarkInRow_33 : decode c_yPa_hasDarkInRow 33 = .ok (.ireturn, 1) := by decide +kernel
set_option maxHeartbeats 4000000 in
set_option maxRecDepth 100000 in
theorem c_Paper_hasDarkInRow (l : Launch) (dC : Nat → ClassId) (dI : Nat → Nat → Nat) (hp hw hs hk : Nat) (cL : ClassId) (w h mn : Int) (G : Int → Int64) (pic : Int → Int → Bool) (row : Int) (w1 : 1 ≤ w) (w2 : w ≤ 1024) (h1 : 1 ≤ h) (h2 : h ≤ 1024) (c1 : 0 ≤ row) (c2 : row < h) (hR : Rep G pic) (hO : Off w h pic) : Met l y_Pa_hasDarkInRow w_Pa_hasDarkInRow ({ frames := 0, cells := 0, slots := 0, locals := 0 }) (va_Pc [.ref hp, .int (iZ row)] (zPr (dC, dI) vwCl [(hp, .inr (2, [.int (iZ w), .int (iZ h), .int (iZ mn), .ref hw, .ref hs, .ref hk])), (hw, .inl (cL, 16384, .inr (.inl (aL G))))] [(cL, .long)])) (vp_Si (fun r => ∃ b : Bool, r = bI b ∧ (b = true ↔ ∃ x, pic x row = true))) 0 0 (fun _ => False) := by
  refine Met.ofW (cc := c_yPa_hasDarkInRow) (maxL := 3) (ret := (some .boolean)) (by decide) rfl ?_
  intro p e s m args below meth c s₁ B hml hv
  obtain ⟨rfl, hP, hK⟩ := hv
  have hx := B.exec
  have hb := B.bytes
  have hr := B.returns
  have hts0 := atoms_spec (ws := w_Pa_hasDarkInRow) B.pre
  have hts : ∀ w ∈ gT, w.before _ s = true := fun w h => hts0 w (List.mem_cons_of_mem _ h)
  have hown : s.vm.findClass R_Pa = some m.cls := findClass_of_methodNamed B.named
  have hlocks := B.notSynchronized
  have hl := lv_entry ([.ref hp, .int (iZ row)]) (n := 3) (Nat.le_of_ble_eq_true rfl)
  rw [lg_entry_eq]
  generalize (lg_sl ([.ref hp, .int (iZ row)]) ++ List.replicate (3 - (lg_sl ([.ref hp, .int (iZ row)])).length) Slot.unset).toArray = ls at hl ⊢
  have hl : lv_has ls 3 [(0, .ref hp), (1, .int (iZ row))] := hl
  refine lv_iconst (v := iZ (0)) hx hb d_Pa_hasDarkInRow_0 rfl ?_
  refine lv_istore_n (lv' := [(2, .int (iZ 0)), (0, .ref hp), (1, .int (iZ row))]) hx hb d_Pa_hasDarkInRow_1 rfl hl (by decide) rfl (fun ls hl => ?_)
  have LP_2 : ∀ (n_2 : Nat) (col : Int), (0 ≤ col) → (col ≤ 16) → (∀ x, x / 64 < col → pic x row = false) → (16 - col).toNat < n_2 → ∀ (ls : Array Slot), lv_has ls 3 [(0, .ref hp), (1, .int (iZ row)), (2, .int (iZ col))] → W p l e ({ frames := 0, cells := 0, slots := 0, locals := 0 } : Room) s m ([.ref hp, .int (iZ row)] : List Value).toArray below meth c s.heap [] 0 0 (MQ below (vp_Si (fun r => ∃ b : Bool, r = bI b ∧ (b = true ↔ ∃ x, pic x row = true))) ([.ref hp, .int (iZ row)] : List Value).toArray s 0 0 (fun _ => False)) (F0 m 2 ls []) := by
    intro n_2
    induction n_2 with
    | zero => intro col i1 i2 i3 hm; exact absurd hm (by omega)
    | succ n_2 ih_2 =>
      intro col i1 i2 i3 hm_2 ls hl
      refine lv_iload_n hx hb d_Pa_hasDarkInRow_2 rfl (lv_at hl 2 rfl) ?_
      refine lv_bipush (v := iZ (16)) hx hb d_Pa_hasDarkInRow_3 (by decide) ?_
      refine zi_ge (tgt := 32) hx hb d_Pa_hasDarkInRow_5 (by decide) (by omega) (by omega) (by omega) (by omega) (fun c_5 => ?_) (fun c_5 => ?_)
      · refine lv_iconst (v := iZ (0)) hx hb d_Pa_hasDarkInRow_32 rfl ?_
        exact W.zret (ty := .boolean) hx hb hr (by decide) (fun t ht hW => ⟨_, rfl, ⟨false, rfl, ⟨fun q => (by cases q), fun ⟨x, e⟩ => by have := Off_in hO e; rw [i3 x (by omega)] at e; exact e⟩⟩, ht⟩) (fun q h => nomatch h) d_Pa_hasDarkInRow_33
      · refine lv_aload_n hx hb d_Pa_hasDarkInRow_8 rfl (lv_at hl 0 rfl) ?_
        refine va_get (D := (dC, dI)) (ci := 2) (v := .ref hw) (C := R_Pa) (T := T_Pa) (N := 6) hx hb hts wi_Pa hown hK hP 0 rfl rfl 3 (by decide) (hts _ t_39) (fun _ h9 => h9) rfl d_Pa_hasDarkInRow_9 ?_
        refine lv_iload_n hx hb d_Pa_hasDarkInRow_12 rfl (lv_at hl 1 rfl) ?_
        refine lv_bipush (v := iZ (16)) hx hb d_Pa_hasDarkInRow_13 (by decide) ?_
        refine zi_mul hx hb d_Pa_hasDarkInRow_15 ?_
        refine lv_iload_n hx hb d_Pa_hasDarkInRow_16 rfl (lv_at hl 2 rfl) ?_
        refine zi_add hx hb d_Pa_hasDarkInRow_17 ?_
        refine z_lald hx hb hK hP 1 0 rfl rfl (by omega) (by omega) (by omega) d_Pa_hasDarkInRow_18 ?_
        refine lv_lconst (v := lZ 0) hx hb d_Pa_hasDarkInRow_19 (by decide) ?_
        refine zr_eq (tgt := 26) hx hb d_Pa_hasDarkInRow_20 d_Pa_hasDarkInRow_21 (by decide) (fun c_20 => ?_) (fun c_20 => ?_)
        · refine lv_iinc (v := iZ (col + 1)) (lv' := [(2, .int (iZ (col + 1))), (0, .ref hp), (1, .int (iZ row))]) hx hb d_Pa_hasDarkInRow_26 hl (k := 2) rfl (iZ_add _ _) (by decide) rfl (fun ls hl => ?_)
          refine lv_goto (tgt := 2) hx hb d_Pa_hasDarkInRow_29 (by decide) ?_
          exact ih_2 (col + 1) (by omega) (by omega) (fun x q => by cases e : pic x row; rfl; (by_cases q2 : x / 64 < col; (rw [i3 x q2] at e; exact e.symm); exact absurd c_20 ((row_word hR i1 (by omega) c1 (by omega)).mpr ⟨x, by omega, e⟩))) (by omega) ls (lv_sub hl [1, 2, 0] rfl)
        · refine lv_iconst (v := iZ (1)) hx hb d_Pa_hasDarkInRow_24 rfl ?_
          exact W.zret (ty := .boolean) hx hb hr (by decide) (fun t ht hW => ⟨_, rfl, ⟨true, rfl, ⟨fun _ => by obtain ⟨x, _, b⟩ := (row_word hR i1 (by omega) c1 (by omega)).mp c_20; exact ⟨x, b⟩, fun _ => rfl⟩⟩, ht⟩) (fun q h => nomatch h) d_Pa_hasDarkInRow_25
  exact LP_2 _ 0 (by omega) (by omega) (fun x q => by cases e : pic x row; rfl; (have := Off_in hO e; omega)) (Nat.lt_succ_self _) ls (lv_sub hl [1, 2, 0] rfl)
theorem d_Pa_leastY_0 : decode c_yPa_leastY 0 = .ok (.iconst 0, 1) := by decide +kernel
theorem d_Pa_leastY_1 : decode c_yPa_leastY 1 = .ok (.istore_n 1, 1) := by decide +kernel
theorem d_Pa_leastY_2 : decode c_yPa_leastY 2 = .ok (.iload_n 1, 1) := by decide +kernel
theorem d_Pa_leastY_3 : decode c_yPa_leastY 3 = .ok (.aload_n 0, 1) := by decide +kernel
theorem d_Pa_leastY_4 : decode c_yPa_leastY 4 = .ok (.getfield 15, 3) := by decide +kernel
theorem d_Pa_leastY_7 : decode c_yPa_leastY 7 = .ok (.if_icmp .ge 19, 3) := by decide +kernel
theorem d_Pa_leastY_10 : decode c_yPa_leastY 10 = .ok (.aload_n 0, 1) := by decide +kernel
theorem d_Pa_leastY_11 : decode c_yPa_leastY 11 = .ok (.iload_n 1, 1) := by decide +kernel
theorem d_Pa_leastY_12 : decode c_yPa_leastY 12 = .ok (.invokevirtual 78, 3) := by decide +kernel
theorem d_Pa_leastY_15 : decode c_yPa_leastY 15 = .ok (.ifCond .eq 5, 3) := by decide +kernel
theorem d_Pa_leastY_18 : decode c_yPa_leastY 18 = .ok (.iload_n 1, 1) := by decide +kernel
theorem d_Pa_leastY_19 : decode c_yPa_leastY 19 = .ok (.ireturn, 1) := by decide +kernel
theorem d_Pa_leastY_20 : decode c_yPa_leastY 20 = .ok (.iinc 1 1, 3) := by decide +kernel
theorem d_Pa_leastY_23 : decode c_yPa_leastY 23 = .ok (.goto (-21), 3) := by decide +kernel
theorem d_Pa_leastY_26 : decode c_yPa_leastY 26 = .ok (.iconst (-1), 1) := by decide +kernel
theorem d_Pa_leastY_27 : decode c_yPa_leastY 27 = .ok (.ireturn, 1) := by decide +kernel
set_option maxHeartbeats 4000000 in
set_option maxRecDepth 100000 in
theorem c_Paper_leastY (l : Launch) (dC : Nat → ClassId) (dI : Nat → Nat → Nat) (hp hw hs hk : Nat) (cL : ClassId) (w h mn : Int) (G : Int → Int64) (pic : Int → Int → Bool) (w1 : 1 ≤ w) (w2 : w ≤ 1024) (h1 : 1 ≤ h) (h2 : h ≤ 1024) (hR : Rep G pic) (hO : Off w h pic) : Met l y_Pa_leastY w_Pa_leastY ({ frames := 1, cells := 0, slots := 0, locals := 22 }) (va_Pc [.ref hp] (zPr (dC, dI) vwCl [(hp, .inr (2, [.int (iZ w), .int (iZ h), .int (iZ mn), .ref hw, .ref hs, .ref hk])), (hw, .inl (cL, 16384, .inr (.inl (aL G))))] [(cL, .long)])) (vp_Si (fun r => ∃ z : Int, r = iZ z ∧ edgeS (fun y => ∃ x, pic x y = true) z)) 0 0 (fun _ => False) := by
  refine Met.ofW (cc := c_yPa_leastY) (maxL := 2) (ret := (some .int)) (by decide) rfl ?_
  intro p e s m args below meth c s₁ B hml hv
  obtain ⟨rfl, hP, hK⟩ := hv
  have hx := B.exec
  have hb := B.bytes
  have hr := B.returns
  have hts0 := atoms_spec (ws := w_Pa_leastY) B.pre
  have hts : ∀ w ∈ gT, w.before _ s = true := fun w h => hts0 w (List.mem_cons_of_mem _ h)
  have hown : s.vm.findClass R_Pa = some m.cls := findClass_of_methodNamed B.named
  have hlocks := B.notSynchronized
  have hl := lv_entry ([.ref hp]) (n := 2) (Nat.le_of_ble_eq_true rfl)
  rw [lg_entry_eq]
  generalize (lg_sl ([.ref hp]) ++ List.replicate (2 - (lg_sl ([.ref hp])).length) Slot.unset).toArray = ls at hl ⊢
  have hl : lv_has ls 2 [(0, .ref hp)] := hl
  refine lv_iconst (v := iZ (0)) hx hb d_Pa_leastY_0 rfl ?_
  refine lv_istore_n (lv' := [(1, .int (iZ 0)), (0, .ref hp)]) hx hb d_Pa_leastY_1 rfl hl (by decide) rfl (fun ls hl => ?_)
  have LP_2 : ∀ (n_2 : Nat) (row : Int), (0 ≤ row) → (row ≤ h) → (∀ y, y < row → ¬ ∃ x, pic x y = true) → (h - row).toNat < n_2 → ∀ (ls : Array Slot), lv_has ls 2 [(0, .ref hp), (1, .int (iZ row))] → W p l e ({ frames := 1, cells := 0, slots := 0, locals := 22 } : Room) s m ([.ref hp] : List Value).toArray below meth c s.heap [] 0 0 (MQ below (vp_Si (fun r => ∃ z : Int, r = iZ z ∧ edgeS (fun y => ∃ x, pic x y = true) z)) ([.ref hp] : List Value).toArray s 0 0 (fun _ => False)) (F0 m 2 ls []) := by
    intro n_2
    induction n_2 with
    | zero => intro row i1 i2 i3 hm; exact absurd hm (by omega)
    | succ n_2 ih_2 =>
      intro row i1 i2 i3 hm_2 ls hl
      refine lv_iload_n hx hb d_Pa_leastY_2 rfl (lv_at hl 1 rfl) ?_
      refine lv_aload_n hx hb d_Pa_leastY_3 rfl (lv_at hl 0 rfl) ?_
      refine va_get (D := (dC, dI)) (ci := 2) (v := .int (iZ h)) (C := R_Pa) (T := T_Pa) (N := 6) hx hb hts wi_Pa hown hK hP 0 rfl rfl 1 (by decide) (hts _ t_35) (fun _ h9 => h9) rfl d_Pa_leastY_4 ?_
      refine zi_ge (tgt := 26) hx hb d_Pa_leastY_7 (by decide) (by omega) (by omega) (by omega) (by omega) (fun c_7 => ?_) (fun c_7 => ?_)
      · refine lv_iconst (v := iZ (-1)) hx hb d_Pa_leastY_26 rfl ?_
        exact W.iret hx hb hr (fun t ht hW => ⟨_, rfl, ⟨-1, rfl, Or.inl ⟨rfl, fun y ⟨x, e⟩ => i3 y (by have := Off_in hO e; omega) ⟨x, e⟩⟩⟩, ht⟩) (fun q h => nomatch h) d_Pa_leastY_27
      · refine lv_aload_n hx hb d_Pa_leastY_10 rfl (lv_at hl 0 rfl) ?_
        refine lv_iload_n hx hb d_Pa_leastY_11 rfl (lv_at hl 1 rfl) ?_
        refine vp_callSi (va_runV (As := [.int (iZ row)]) (rest := []) ⟨hx, hb, hml, hown, hts⟩ (c_Paper_hasDarkInRow l dC dI hp hw hs hk cL w h mn G pic row (by first | omega | assumption) (by first | omega | assumption) (by first | omega | assumption) (by first | omega | assumption) (by first | omega | assumption) (by first | omega | assumption) (by first | omega | assumption) (by first | omega | assumption)) (cwV 1 hts (gV t_604 t_606 s_13 t_2 t_607) rfl rfl rfl (by decide +kernel) ⟨Nat.le_of_ble_eq_true rfl, Nat.le_of_ble_eq_true rfl⟩) ⟨zPr_blind, va_recv hK hP (ci := 2) (q0 := 0) rfl rfl, zPr_pre hP hK [0, 1] [0] rfl rfl⟩ rfl rfl hl.1 rfl (lv_room (Nat.le_of_ble_eq_true rfl)) d_Pa_leastY_12 ⟨Nat.le_of_ble_eq_true rfl, Nat.le_of_ble_eq_true rfl⟩).run (fun r_12 q_12 => ?_)
        obtain ⟨k_12, rfl, q_12⟩ := q_12
        refine zb_if_eq (tgt := 20) hx hb d_Pa_leastY_15 (by decide) (fun c_15 => ?_) (fun c_15 => ?_)
        · refine lv_iinc (v := iZ (row + 1)) (lv' := [(1, .int (iZ (row + 1))), (0, .ref hp)]) hx hb d_Pa_leastY_20 hl (k := 1) rfl (iZ_add _ _) (by decide) rfl (fun ls hl => ?_)
          refine lv_goto (tgt := 2) hx hb d_Pa_leastY_23 (by decide) ?_
          exact ih_2 (row + 1) (by omega) (by omega) (fun y q => by by_cases q2 : y = row; (subst q2; exact fun e => by rw [q_12.mpr e] at c_15; exact absurd c_15 (by decide)); exact i3 y (by omega)) (by omega) ls (lv_sub hl [1, 0] rfl)
        · refine lv_iload_n hx hb d_Pa_leastY_18 rfl (lv_at hl 1 rfl) ?_
          exact W.iret hx hb hr (fun t ht hW => ⟨_, rfl, ⟨row, rfl, Or.inr ⟨i1, q_12.mp c_15, fun y e => Classical.byContradiction (fun q => i3 y (by omega) e)⟩⟩, ht⟩) (fun q h => nomatch h) d_Pa_leastY_19
  exact LP_2 _ 0 (by omega) (by omega) (fun y q ⟨x, e⟩ => by have := Off_in hO e; omega) (Nat.lt_succ_self _) ls (lv_sub hl [1, 0] rfl)
theorem d_Pa_greatestY_0 : decode c_yPa_greatestY 0 = .ok (.aload_n 0, 1) := by decide +kernel
theorem d_Pa_greatestY_1 : decode c_yPa_greatestY 1 = .ok (.getfield 15, 3) := by decide +kernel
theorem d_Pa_greatestY_4 : decode c_yPa_greatestY 4 = .ok (.iconst 1, 1) := by decide +kernel
theorem d_Pa_greatestY_5 : decode c_yPa_greatestY 5 = .ok (.isub, 1) := by decide +kernel
theorem d_Pa_greatestY_6 : decode c_yPa_greatestY 6 = .ok (.istore_n 1, 1) := by decide +kernel
theorem d_Pa_greatestY_7 : decode c_yPa_greatestY 7 = .ok (.iload_n 1, 1) := by decide +kernel
theorem d_Pa_greatestY_8 : decode c_yPa_greatestY 8 = .ok (.ifCond .lt 19, 3) := by decide +kernel
theorem d_Pa_greatestY_11 : decode c_yPa_greatestY 11 = .ok (.aload_n 0, 1) := by decide +kernel
theorem d_Pa_greatestY_12 : decode c_yPa_greatestY 12 = .ok (.iload_n 1, 1) := by decide +kernel
theorem d_Pa_greatestY_13 : decode c_yPa_greatestY 13 = .ok (.invokevirtual 78, 3) := by decide +kernel
theorem d_Pa_greatestY_16 : decode c_yPa_greatestY 16 = .ok (.ifCond .eq 5, 3) := by decide +kernel
theorem d_Pa_greatestY_19 : decode c_yPa_greatestY 19 = .ok (.iload_n 1, 1) := by decide +kernel
theorem d_Pa_greatestY_20 : decode c_yPa_greatestY 20 = .ok (.ireturn, 1) := by decide +kernel
theorem d_Pa_greatestY_21 : decode c_yPa_greatestY 21 = .ok (.iinc 1 (-1), 3) := by decide +kernel
theorem d_Pa_greatestY_24 : decode c_yPa_greatestY 24 = .ok (.goto (-17), 3) := by decide +kernel
theorem d_Pa_greatestY_27 : decode c_yPa_greatestY 27 = .ok (.iconst (-1), 1) := by decide +kernel
theorem d_Pa_greatestY_28 : decode c_yPa_greatestY 28 = .ok (.ireturn, 1) := by decide +kernel
set_option maxHeartbeats 4000000 in
set_option maxRecDepth 100000 in
theorem c_Paper_greatestY (l : Launch) (dC : Nat → ClassId) (dI : Nat → Nat → Nat) (hp hw hs hk : Nat) (cL : ClassId) (w h mn : Int) (G : Int → Int64) (pic : Int → Int → Bool) (w1 : 1 ≤ w) (w2 : w ≤ 1024) (h1 : 1 ≤ h) (h2 : h ≤ 1024) (hR : Rep G pic) (hO : Off w h pic) : Met l y_Pa_greatestY w_Pa_greatestY ({ frames := 1, cells := 0, slots := 0, locals := 22 }) (va_Pc [.ref hp] (zPr (dC, dI) vwCl [(hp, .inr (2, [.int (iZ w), .int (iZ h), .int (iZ mn), .ref hw, .ref hs, .ref hk])), (hw, .inl (cL, 16384, .inr (.inl (aL G))))] [(cL, .long)])) (vp_Si (fun r => ∃ z : Int, r = iZ z ∧ edgeG (fun y => ∃ x, pic x y = true) z)) 0 0 (fun _ => False) := by
  refine Met.ofW (cc := c_yPa_greatestY) (maxL := 2) (ret := (some .int)) (by decide) rfl ?_
  intro p e s m args below meth c s₁ B hml hv
  obtain ⟨rfl, hP, hK⟩ := hv
  have hx := B.exec
  have hb := B.bytes
  have hr := B.returns
  have hts0 := atoms_spec (ws := w_Pa_greatestY) B.pre
  have hts : ∀ w ∈ gT, w.before _ s = true := fun w h => hts0 w (List.mem_cons_of_mem _ h)
  have hown : s.vm.findClass R_Pa = some m.cls := findClass_of_methodNamed B.named
  have hlocks := B.notSynchronized
  have hl := lv_entry ([.ref hp]) (n := 2) (Nat.le_of_ble_eq_true rfl)
  rw [lg_entry_eq]
  generalize (lg_sl ([.ref hp]) ++ List.replicate (2 - (lg_sl ([.ref hp])).length) Slot.unset).toArray = ls at hl ⊢
  have hl : lv_has ls 2 [(0, .ref hp)] := hl
  refine lv_aload_n hx hb d_Pa_greatestY_0 rfl (lv_at hl 0 rfl) ?_
  refine va_get (D := (dC, dI)) (ci := 2) (v := .int (iZ h)) (C := R_Pa) (T := T_Pa) (N := 6) hx hb hts wi_Pa hown hK hP 0 rfl rfl 1 (by decide) (hts _ t_35) (fun _ h9 => h9) rfl d_Pa_greatestY_1 ?_
  refine lv_iconst (v := iZ (1)) hx hb d_Pa_greatestY_4 rfl ?_
  refine zi_sub hx hb d_Pa_greatestY_5 ?_
  refine zn_z (fun v1_6 e_v1_6 => ?_)
  refine lv_istore_n (lv' := [(1, .int (iZ v1_6)), (0, .ref hp)]) hx hb d_Pa_greatestY_6 rfl hl (by decide) rfl (fun ls hl => ?_)
  have LP_7 : ∀ (n_7 : Nat) (row : Int), (-1 ≤ row) → (row < h) → (∀ y, row < y → ¬ ∃ x, pic x y = true) → (row + 1).toNat < n_7 → ∀ (ls : Array Slot), lv_has ls 2 [(0, .ref hp), (1, .int (iZ row))] → W p l e ({ frames := 1, cells := 0, slots := 0, locals := 22 } : Room) s m ([.ref hp] : List Value).toArray below meth c s.heap [] 0 0 (MQ below (vp_Si (fun r => ∃ z : Int, r = iZ z ∧ edgeG (fun y => ∃ x, pic x y = true) z)) ([.ref hp] : List Value).toArray s 0 0 (fun _ => False)) (F0 m 7 ls []) := by
    intro n_7
    induction n_7 with
    | zero => intro row i1 i2 i3 hm; exact absurd hm (by omega)
    | succ n_7 ih_7 =>
      intro row i1 i2 i3 hm_7 ls hl
      refine lv_iload_n hx hb d_Pa_greatestY_7 rfl (lv_at hl 1 rfl) ?_
      refine zi_if_lt (tgt := 27) hx hb d_Pa_greatestY_8 (by decide) (by omega) (by omega) (fun c_8 => ?_) (fun c_8 => ?_)
      · refine lv_iconst (v := iZ (-1)) hx hb d_Pa_greatestY_27 rfl ?_
        exact W.iret hx hb hr (fun t ht hW => ⟨_, rfl, ⟨-1, rfl, Or.inl ⟨rfl, fun y ⟨x, e⟩ => i3 y (by have := Off_in hO e; omega) ⟨x, e⟩⟩⟩, ht⟩) (fun q h => nomatch h) d_Pa_greatestY_28
      · refine lv_aload_n hx hb d_Pa_greatestY_11 rfl (lv_at hl 0 rfl) ?_
        refine lv_iload_n hx hb d_Pa_greatestY_12 rfl (lv_at hl 1 rfl) ?_
        refine vp_callSi (va_runV (As := [.int (iZ row)]) (rest := []) ⟨hx, hb, hml, hown, hts⟩ (c_Paper_hasDarkInRow l dC dI hp hw hs hk cL w h mn G pic row (by first | omega | assumption) (by first | omega | assumption) (by first | omega | assumption) (by first | omega | assumption) (by first | omega | assumption) (by first | omega | assumption) (by first | omega | assumption) (by first | omega | assumption)) (cwV 1 hts (gV t_604 t_606 s_13 t_2 t_607) rfl rfl rfl (by decide +kernel) ⟨Nat.le_of_ble_eq_true rfl, Nat.le_of_ble_eq_true rfl⟩) ⟨zPr_blind, va_recv hK hP (ci := 2) (q0 := 0) rfl rfl, zPr_pre hP hK [0, 1] [0] rfl rfl⟩ rfl rfl hl.1 rfl (lv_room (Nat.le_of_ble_eq_true rfl)) d_Pa_greatestY_13 ⟨Nat.le_of_ble_eq_true rfl, Nat.le_of_ble_eq_true rfl⟩).run (fun r_13 q_13 => ?_)
        obtain ⟨k_13, rfl, q_13⟩ := q_13
        refine zb_if_eq (tgt := 21) hx hb d_Pa_greatestY_16 (by decide) (fun c_16 => ?_) (fun c_16 => ?_)
        · refine lv_iinc (v := iZ (row + (-1))) (lv' := [(1, .int (iZ (row + (-1)))), (0, .ref hp)]) hx hb d_Pa_greatestY_21 hl (k := 1) rfl (iZ_add _ _) (by decide) rfl (fun ls hl => ?_)
          refine lv_goto (tgt := 7) hx hb d_Pa_greatestY_24 (by decide) ?_
          exact ih_7 (row + (-1)) (by omega) (by omega) (fun y q => by by_cases q2 : y = row; (subst q2; exact fun e => by rw [q_13.mpr e] at c_16; exact absurd c_16 (by decide)); exact i3 y (by omega)) (by omega) ls (lv_sub hl [1, 0] rfl)
        · refine lv_iload_n hx hb d_Pa_greatestY_19 rfl (lv_at hl 1 rfl) ?_
          exact W.iret hx hb hr (fun t ht hW => ⟨_, rfl, ⟨row, rfl, Or.inr ⟨by omega, q_13.mp c_16, fun y e => Classical.byContradiction (fun q => i3 y (by omega) e)⟩⟩, ht⟩) (fun q h => nomatch h) d_Pa_greatestY_20
  exact LP_7 _ v1_6 (by omega) (by omega) (fun y q ⟨x, e⟩ => by have := Off_in hO e; omega) (Nat.lt_succ_self _) ls (lv_sub hl [1, 0] rfl)
theorem d_Pa_takeBlock_0 : decode c_yPa_takeBlock 0 = .ok (.iconst 0, 1) := by decide +kernel
theorem d_Pa_takeBlock_1 : decode c_yPa_takeBlock 1 = .ok (.istore_n 3, 1) := by decide +kernel
theorem d_Pa_takeBlock_2 : decode c_yPa_takeBlock 2 = .ok (.iload_n 3, 1) := by decide +kernel
theorem d_Pa_takeBlock_3 : decode c_yPa_takeBlock 3 = .ok (.bipush 64, 2) := by decide +kernel
theorem d_Pa_takeBlock_5 : decode c_yPa_takeBlock 5 = .ok (.if_icmp .ge 51, 3) := by decide +kernel
theorem d_Pa_takeBlock_8 : decode c_yPa_takeBlock 8 = .ok (.aload_n 0, 1) := by decide +kernel
theorem d_Pa_takeBlock_9 : decode c_yPa_takeBlock 9 = .ok (.getfield 15, 3) := by decide +kernel
theorem d_Pa_takeBlock_12 : decode c_yPa_takeBlock 12 = .ok (.iconst 1, 1) := by decide +kernel
theorem d_Pa_takeBlock_13 : decode c_yPa_takeBlock 13 = .ok (.isub, 1) := by decide +kernel
theorem d_Pa_takeBlock_14 : decode c_yPa_takeBlock 14 = .ok (.iload_n 1, 1) := by decide +kernel
theorem d_Pa_takeBlock_15 : decode c_yPa_takeBlock 15 = .ok (.bipush 64, 2) := by decide +kernel
theorem d_Pa_takeBlock_17 : decode c_yPa_takeBlock 17 = .ok (.imul, 1) := by decide +kernel
theorem d_Pa_takeBlock_18 : decode c_yPa_takeBlock 18 = .ok (.iload_n 3, 1) := by decide +kernel
theorem d_Pa_takeBlock_19 : decode c_yPa_takeBlock 19 = .ok (.iadd, 1) := by decide +kernel
theorem d_Pa_takeBlock_20 : decode c_yPa_takeBlock 20 = .ok (.isub, 1) := by decide +kernel
theorem d_Pa_takeBlock_21 : decode c_yPa_takeBlock 21 = .ok (.istore 4, 2) := by decide +kernel
theorem d_Pa_takeBlock_23 : decode c_yPa_takeBlock 23 = .ok (.aload_n 0, 1) := by decide +kernel
theorem d_Pa_takeBlock_24 : decode c_yPa_takeBlock 24 = .ok (.getfield 28, 3) := by decide +kernel
theorem d_Pa_takeBlock_27 : decode c_yPa_takeBlock 27 = .ok (.iload_n 3, 1) := by decide +kernel
theorem d_Pa_takeBlock_28 : decode c_yPa_takeBlock 28 = .ok (.iload 4, 2) := by decide +kernel
theorem d_Pa_takeBlock_30 : decode c_yPa_takeBlock 30 = .ok (.ifCond .ge 7, 3) := by decide +kernel
theorem d_Pa_takeBlock_33 : decode c_yPa_takeBlock 33 = .ok (.lconst 0, 1) := by decide +kernel
theorem d_Pa_takeBlock_34 : decode c_yPa_takeBlock 34 = .ok (.goto 15, 3) := by decide +kernel
theorem d_Pa_takeBlock_37 : decode c_yPa_takeBlock 37 = .ok (.aload_n 0, 1) := by decide +kernel
theorem d_Pa_takeBlock_38 : decode c_yPa_takeBlock 38 = .ok (.getfield 21, 3) := by decide +kernel
theorem d_Pa_takeBlock_41 : decode c_yPa_takeBlock 41 = .ok (.iload 4, 2) := by decide +kernel
theorem d_Pa_takeBlock_43 : decode c_yPa_takeBlock 43 = .ok (.bipush 16, 2) := by decide +kernel
theorem d_Pa_takeBlock_45 : decode c_yPa_takeBlock 45 = .ok (.imul, 1) := by decide +kernel
theorem d_Pa_takeBlock_46 : decode c_yPa_takeBlock 46 = .ok (.iload_n 2, 1) := by decide +kernel
theorem d_Pa_takeBlock_47 : decode c_yPa_takeBlock 47 = .ok (.iadd, 1) := by decide +kernel
theorem d_Pa_takeBlock_48 : decode c_yPa_takeBlock 48 = .ok (.laload, 1) := by decide +kernel
theorem d_Pa_takeBlock_49 : decode c_yPa_takeBlock 49 = .ok (.lastore, 1) := by decide +kernel
theorem d_Pa_takeBlock_50 : decode c_yPa_takeBlock 50 = .ok (.iinc 3 1, 3) := by decide +kernel
theorem d_Pa_takeBlock_53 : decode c_yPa_takeBlock 53 = .ok (.goto (-51), 3) := by decide +kernel
theorem d_Pa_takeBlock_56 : decode c_yPa_takeBlock 56 = .ok (.return_, 1) := by decide +kernel
set_option maxHeartbeats 4000000 in
set_option maxRecDepth 100000 in
theorem c_Paper_takeBlock (l : Launch) (dC : Nat → ClassId) (dI : Nat → Nat → Nat) (hp hw hs hk : Nat) (cL : ClassId) (w h mn : Int) (G Bk : Int → Int64) (dn al : Int) (sz : Nat) (w1 : 1 ≤ w) (w2 : w ≤ 1024) (h1 : 1 ≤ h) (h2 : h ≤ 1024) (d1 : 0 ≤ dn) (d2 : dn < 16) (a1 : 0 ≤ al) (a2 : al < 16) : Met l y_Pa_takeBlock w_Pa_takeBlock ({ frames := 0, cells := 0, slots := 0, locals := 0 }) (va_Pc [.ref hp, .int (iZ dn), .int (iZ al)] (zPm (dC, dI) vwCl [(hp, .inr (2, [.int (iZ w), .int (iZ h), .int (iZ mn), .ref hw, .ref hs, .ref hk])), (hw, .inl (cL, 16384, .inr (.inl (aL G)))), (hk, .inl (cL, 64, .inr (.inl (aL Bk))))] [(cL, .long)] sz)) (va_Qv (fun (u : Int → Int64) => ∀ k : Int, 0 ≤ k → k < 64 → u k = if h - 1 - (dn * 64 + k) < 0 then lZ 0 else G ((h - 1 - (dn * 64 + k)) * 16 + al)) (fun u => zB (dC, dI) vwCl [(cL, .long)] (va_A [(hp, .inr (2, [.int (iZ w), .int (iZ h), .int (iZ mn), .ref hw, .ref hs, .ref hk])), (hw, .inl (cL, 16384, .inr (.inl (aL G)))), (hk, .inl (cL, 64, .inr (.inl (aL Bk))))] sz) [(hp, .inr (2, [.int (iZ w), .int (iZ h), .int (iZ mn), .ref hw, .ref hs, .ref hk])), (hw, .inl (cL, 16384, .inr (.inl (aL G)))), (hk, .inl (cL, 64, .inr (.inl (aL u))))]) (va_A [(hp, .inr (2, [.int (iZ w), .int (iZ h), .int (iZ mn), .ref hw, .ref hs, .ref hk])), (hw, .inl (cL, 16384, .inr (.inl (aL G)))), (hk, .inl (cL, 64, .inr (.inl (aL Bk))))] sz)) 0 0 (va_A [(hp, .inr (2, [.int (iZ w), .int (iZ h), .int (iZ mn), .ref hw, .ref hs, .ref hk])), (hw, .inl (cL, 16384, .inr (.inl (aL G)))), (hk, .inl (cL, 64, .inr (.inl (aL Bk))))] sz) := by
  refine Met.ofW (cc := c_yPa_takeBlock) (maxL := 5) (ret := none) (by decide) rfl ?_
  intro p e s m args below meth c s₁ B hml hv
  obtain ⟨rfl, hsz, hP, hK, hD0⟩ := hv
  have hx := B.exec
  have hb := B.bytes
  have hr := B.returns
  have hts0 := atoms_spec (ws := w_Pa_takeBlock) B.pre
  have hts : ∀ w ∈ gT, w.before _ s = true := fun w h => hts0 w (List.mem_cons_of_mem _ h)
  have hown : s.vm.findClass R_Pa = some m.cls := findClass_of_methodNamed B.named
  have hlocks := B.notSynchronized
  subst hsz
  have hD := hD0.self (sz := s.heap.size)
  generalize hAe : va_A [(hp, .inr (2, [.int (iZ w), .int (iZ h), .int (iZ mn), .ref hw, .ref hs, .ref hk])), (hw, .inl (cL, 16384, .inr (.inl (aL G)))), (hk, .inl (cL, 64, .inr (.inl (aL Bk))))] s.heap.size = A at hD ⊢
  have hA : ∀ q : Nat, s.heap.size ≤ q → A q := fun q h => by rw [← hAe]; exact Or.inr h
  obtain ⟨H, hH⟩ : ∃ H, s.heap = H := ⟨_, rfl⟩
  have hS : va_S A s.heap H [] := by rw [← hH]; exact va_S.rf
  rw [hH] at hP
  rw [hH]
  have hl := lv_entry ([.ref hp, .int (iZ dn), .int (iZ al)]) (n := 5) (Nat.le_of_ble_eq_true rfl)
  rw [lg_entry_eq]
  generalize (lg_sl ([.ref hp, .int (iZ dn), .int (iZ al)]) ++ List.replicate (5 - (lg_sl ([.ref hp, .int (iZ dn), .int (iZ al)])).length) Slot.unset).toArray = ls at hl ⊢
  have hl : lv_has ls 5 [(0, .ref hp), (1, .int (iZ dn)), (2, .int (iZ al))] := hl
  refine lv_iconst (v := iZ (0)) hx hb d_Pa_takeBlock_0 rfl ?_
  refine lv_istore_n (lv' := [(3, .int (iZ 0)), (0, .ref hp), (1, .int (iZ dn)), (2, .int (iZ al))]) hx hb d_Pa_takeBlock_1 rfl hl (by decide) rfl (fun ls hl => ?_)
  have LP_2 : ∀ (n_2 : Nat) (k : Int) (K : Int → Int64), (0 ≤ k) → (k ≤ 64) → (∀ j : Int, 0 ≤ j → j < k → K j = if h - 1 - (dn * 64 + j) < 0 then lZ 0 else G ((h - 1 - (dn * 64 + j)) * 16 + al)) → (64 - k).toNat < n_2 → ∀ (H : Heap) (locs : List Loc), va_P (dC, dI) vwCl [(hp, .inr (2, [.int (iZ w), .int (iZ h), .int (iZ mn), .ref hw, .ref hs, .ref hk])), (hw, .inl (cL, 16384, .inr (.inl (aL G)))), (hk, .inl (cL, 64, .inr (.inl (aL K))))] H → va_D A [(hp, .inr (2, [.int (iZ w), .int (iZ h), .int (iZ mn), .ref hw, .ref hs, .ref hk])), (hw, .inl (cL, 16384, .inr (.inl (aL G)))), (hk, .inl (cL, 64, .inr (.inl (aL K))))] → va_S A s.heap H locs → ∀ (ls : Array Slot), lv_has ls 5 [(0, .ref hp), (1, .int (iZ dn)), (2, .int (iZ al)), (3, .int (iZ k))] → W p l e ({ frames := 0, cells := 0, slots := 0, locals := 0 } : Room) s m ([.ref hp, .int (iZ dn), .int (iZ al)] : List Value).toArray below meth c H locs 0 0 (MQ below (va_Qv (fun (u : Int → Int64) => ∀ k : Int, 0 ≤ k → k < 64 → u k = if h - 1 - (dn * 64 + k) < 0 then lZ 0 else G ((h - 1 - (dn * 64 + k)) * 16 + al)) (fun u => zB (dC, dI) vwCl [(cL, .long)] A [(hp, .inr (2, [.int (iZ w), .int (iZ h), .int (iZ mn), .ref hw, .ref hs, .ref hk])), (hw, .inl (cL, 16384, .inr (.inl (aL G)))), (hk, .inl (cL, 64, .inr (.inl (aL u))))]) A) ([.ref hp, .int (iZ dn), .int (iZ al)] : List Value).toArray s 0 0 A) (F0 m 2 ls []) := by
    intro n_2
    induction n_2 with
    | zero => intro k K i1 i2 i3 hm; exact absurd hm (by omega)
    | succ n_2 ih_2 =>
      intro k K i1 i2 i3 hm_2 H locs hP hD hS ls hl
      refine lv_iload_n hx hb d_Pa_takeBlock_2 rfl (lv_at hl 3 rfl) ?_
      refine lv_bipush (v := iZ (64)) hx hb d_Pa_takeBlock_3 (by decide) ?_
      refine zi_ge (tgt := 56) hx hb d_Pa_takeBlock_5 (by decide) (by omega) (by omega) (by omega) (by omega) (fun c_5 => ?_) (fun c_5 => ?_)
      · exact W.vret hx hb hr (fun t ht hW => ⟨⟨K, rfl, fun j j1 j2 => i3 j j1 (by omega), by rw [ht]; exact hP, va_K.moved hW.alike hK, hD⟩, hS.F ht⟩) hS.2.2 d_Pa_takeBlock_56
      · refine lv_aload_n hx hb d_Pa_takeBlock_8 rfl (lv_at hl 0 rfl) ?_
        refine va_get (D := (dC, dI)) (ci := 2) (v := .int (iZ h)) (C := R_Pa) (T := T_Pa) (N := 6) hx hb hts wi_Pa hown hK hP 0 rfl rfl 1 (by decide) (hts _ t_35) (fun _ h9 => h9) rfl d_Pa_takeBlock_9 ?_
        refine lv_iconst (v := iZ (1)) hx hb d_Pa_takeBlock_12 rfl ?_
        refine zi_sub hx hb d_Pa_takeBlock_13 ?_
        refine lv_iload_n hx hb d_Pa_takeBlock_14 rfl (lv_at hl 1 rfl) ?_
        refine lv_bipush (v := iZ (64)) hx hb d_Pa_takeBlock_15 (by decide) ?_
        refine zi_mul hx hb d_Pa_takeBlock_17 ?_
        refine lv_iload_n hx hb d_Pa_takeBlock_18 rfl (lv_at hl 3 rfl) ?_
        refine zi_add hx hb d_Pa_takeBlock_19 ?_
        refine zi_sub hx hb d_Pa_takeBlock_20 ?_
        refine zn_z (fun row e_row => ?_)
        refine lv_istore (lv' := [(4, .int (iZ row)), (0, .ref hp), (1, .int (iZ dn)), (2, .int (iZ al)), (3, .int (iZ k))]) hx hb d_Pa_takeBlock_21 hl (by decide) rfl (fun ls hl => ?_)
        refine lv_aload_n hx hb d_Pa_takeBlock_23 rfl (lv_at hl 1 rfl) ?_
        refine va_get (D := (dC, dI)) (ci := 2) (v := .ref hk) (C := R_Pa) (T := T_Pa) (N := 6) hx hb hts wi_Pa hown hK hP 0 rfl rfl 5 (by decide) (hts _ t_41) (fun _ h9 => h9) rfl d_Pa_takeBlock_24 ?_
        refine lv_iload_n hx hb d_Pa_takeBlock_27 rfl (lv_at hl 4 rfl) ?_
        refine lv_iload hx hb d_Pa_takeBlock_28 (lv_at hl 0 rfl) ?_
        refine zi_if_ge (tgt := 37) hx hb d_Pa_takeBlock_30 (by decide) (by omega) (by omega) (fun c_30 => ?_) (fun c_30 => ?_)
        · refine lv_aload_n hx hb d_Pa_takeBlock_37 rfl (lv_at hl 1 rfl) ?_
          refine va_get (D := (dC, dI)) (ci := 2) (v := .ref hw) (C := R_Pa) (T := T_Pa) (N := 6) hx hb hts wi_Pa hown hK hP 0 rfl rfl 3 (by decide) (hts _ t_39) (fun _ h9 => h9) rfl d_Pa_takeBlock_38 ?_
          refine lv_iload hx hb d_Pa_takeBlock_41 (lv_at hl 0 rfl) ?_
          refine lv_bipush (v := iZ (16)) hx hb d_Pa_takeBlock_43 (by decide) ?_
          refine zi_mul hx hb d_Pa_takeBlock_45 ?_
          refine lv_iload_n hx hb d_Pa_takeBlock_46 rfl (lv_at hl 3 rfl) ?_
          refine zi_add hx hb d_Pa_takeBlock_47 ?_
          refine z_lald hx hb hK hP 1 0 rfl rfl (by omega) (by omega) (by omega) d_Pa_takeBlock_48 ?_
          refine z_last hx hb hK hP hD hS 2 0 rfl rfl (by omega) (by omega) (by omega) d_Pa_takeBlock_49 (fun H locs hP hD hS => ?_)
          have hP : va_P (dC, dI) vwCl [(hp, .inr (2, [.int (iZ w), .int (iZ h), .int (iZ mn), .ref hw, .ref hs, .ref hk])), (hw, .inl (cL, 16384, .inr (.inl (aL G)))), (hk, .inl (cL, 64, .inr (.inl (aL (upZ K k (G ((row * 16) + al)))))))] H := hP
          have hD : va_D A [(hp, .inr (2, [.int (iZ w), .int (iZ h), .int (iZ mn), .ref hw, .ref hs, .ref hk])), (hw, .inl (cL, 16384, .inr (.inl (aL G)))), (hk, .inl (cL, 64, .inr (.inl (aL (upZ K k (G ((row * 16) + al)))))))] := hD
          refine lv_iinc (v := iZ (k + 1)) (lv' := [(3, .int (iZ (k + 1))), (4, .int (iZ row)), (0, .ref hp), (1, .int (iZ dn)), (2, .int (iZ al))]) hx hb d_Pa_takeBlock_50 hl (k := 4) rfl (iZ_add _ _) (by decide) rfl (fun ls hl => ?_)
          refine lv_goto (tgt := 2) hx hb d_Pa_takeBlock_53 (by decide) ?_
          exact ih_2 (k + 1) (upZ K k (G ((row * 16) + al))) (by omega) (by omega) (fun j j1 j2 => by by_cases q : j = k; (subst q; rw [upZ_s, ← e_row]; first | rw [if_pos (by omega)] | rw [if_neg (by omega)]); (rw [upZ_n _ _ q]; exact i3 j j1 (by omega))) (by omega) _ _ hP hD hS ls (lv_sub hl [2, 3, 4, 0] rfl)
        · refine lv_lconst (v := lZ 0) hx hb d_Pa_takeBlock_33 (by decide) ?_
          refine lv_goto (tgt := 49) hx hb d_Pa_takeBlock_34 (by decide) ?_
          refine z_last hx hb hK hP hD hS 2 0 rfl rfl (by omega) (by omega) (by omega) d_Pa_takeBlock_49 (fun H locs hP hD hS => ?_)
          have hP : va_P (dC, dI) vwCl [(hp, .inr (2, [.int (iZ w), .int (iZ h), .int (iZ mn), .ref hw, .ref hs, .ref hk])), (hw, .inl (cL, 16384, .inr (.inl (aL G)))), (hk, .inl (cL, 64, .inr (.inl (aL (upZ K k (lZ 0))))))] H := hP
          have hD : va_D A [(hp, .inr (2, [.int (iZ w), .int (iZ h), .int (iZ mn), .ref hw, .ref hs, .ref hk])), (hw, .inl (cL, 16384, .inr (.inl (aL G)))), (hk, .inl (cL, 64, .inr (.inl (aL (upZ K k (lZ 0))))))] := hD
          refine lv_iinc (v := iZ (k + 1)) (lv' := [(3, .int (iZ (k + 1))), (4, .int (iZ row)), (0, .ref hp), (1, .int (iZ dn)), (2, .int (iZ al))]) hx hb d_Pa_takeBlock_50 hl (k := 4) rfl (iZ_add _ _) (by decide) rfl (fun ls hl => ?_)
          refine lv_goto (tgt := 2) hx hb d_Pa_takeBlock_53 (by decide) ?_
          exact ih_2 (k + 1) (upZ K k (lZ 0)) (by omega) (by omega) (fun j j1 j2 => by by_cases q : j = k; (subst q; rw [upZ_s, ← e_row]; first | rw [if_pos (by omega)] | rw [if_neg (by omega)]); (rw [upZ_n _ _ q]; exact i3 j j1 (by omega))) (by omega) _ _ hP hD hS ls (lv_sub hl [2, 3, 4, 0] rfl)
  exact LP_2 _ 0 Bk (by omega) (by omega) (fun j j1 j2 => absurd j2 (by omega)) (Nat.lt_succ_self _) _ _ hP hD hS ls (lv_sub hl [1, 2, 3, 0] rfl)
theorem d_Pa_putBlock_0 : decode c_yPa_putBlock 0 = .ok (.iconst 0, 1) := by decide +kernel
theorem d_Pa_putBlock_1 : decode c_yPa_putBlock 1 = .ok (.istore_n 3, 1) := by decide +kernel
theorem d_Pa_putBlock_2 : decode c_yPa_putBlock 2 = .ok (.iload_n 3, 1) := by decide +kernel
theorem d_Pa_putBlock_3 : decode c_yPa_putBlock 3 = .ok (.bipush 64, 2) := by decide +kernel
theorem d_Pa_putBlock_5 : decode c_yPa_putBlock 5 = .ok (.if_icmp .ge 31, 3) := by decide +kernel
theorem d_Pa_putBlock_8 : decode c_yPa_putBlock 8 = .ok (.aload_n 0, 1) := by decide +kernel
theorem d_Pa_putBlock_9 : decode c_yPa_putBlock 9 = .ok (.getfield 25, 3) := by decide +kernel
theorem d_Pa_putBlock_12 : decode c_yPa_putBlock 12 = .ok (.iload_n 1, 1) := by decide +kernel
theorem d_Pa_putBlock_13 : decode c_yPa_putBlock 13 = .ok (.bipush 64, 2) := by decide +kernel
theorem d_Pa_putBlock_15 : decode c_yPa_putBlock 15 = .ok (.imul, 1) := by decide +kernel
theorem d_Pa_putBlock_16 : decode c_yPa_putBlock 16 = .ok (.iload_n 3, 1) := by decide +kernel
theorem d_Pa_putBlock_17 : decode c_yPa_putBlock 17 = .ok (.iadd, 1) := by decide +kernel
theorem d_Pa_putBlock_18 : decode c_yPa_putBlock 18 = .ok (.bipush 16, 2) := by decide +kernel
theorem d_Pa_putBlock_20 : decode c_yPa_putBlock 20 = .ok (.imul, 1) := by decide +kernel
theorem d_Pa_putBlock_21 : decode c_yPa_putBlock 21 = .ok (.iload_n 2, 1) := by decide +kernel
theorem d_Pa_putBlock_22 : decode c_yPa_putBlock 22 = .ok (.iadd, 1) := by decide +kernel
theorem d_Pa_putBlock_23 : decode c_yPa_putBlock 23 = .ok (.aload_n 0, 1) := by decide +kernel
theorem d_Pa_putBlock_24 : decode c_yPa_putBlock 24 = .ok (.getfield 28, 3) := by decide +kernel
theorem d_Pa_putBlock_27 : decode c_yPa_putBlock 27 = .ok (.iload_n 3, 1) := by decide +kernel
theorem d_Pa_putBlock_28 : decode c_yPa_putBlock 28 = .ok (.laload, 1) := by decide +kernel
theorem d_Pa_putBlock_29 : decode c_yPa_putBlock 29 = .ok (.lastore, 1) := by decide +kernel
theorem d_Pa_putBlock_30 : decode c_yPa_putBlock 30 = .ok (.iinc 3 1, 3) := by decide +kernel
theorem d_Pa_putBlock_33 : decode c_yPa_putBlock 33 = .ok (.goto (-31), 3) := by decide +kernel
theorem d_Pa_putBlock_36 : decode c_yPa_putBlock 36 = .ok (.return_, 1) := by decide +kernel
set_option maxHeartbeats 4000000 in
set_option maxRecDepth 100000 in
theorem c_Paper_putBlock (l : Launch) (dC : Nat → ClassId) (dI : Nat → Nat → Nat) (hp hw hs hk : Nat) (cL : ClassId) (w h mn : Int) (Sp Bk : Int → Int64) (dn al : Int) (sz : Nat) (d1 : 0 ≤ dn) (d2 : dn < 16) (a1 : 0 ≤ al) (a2 : al < 16) : Met l y_Pa_putBlock w_Pa_putBlock ({ frames := 0, cells := 0, slots := 0, locals := 0 }) (va_Pc [.ref hp, .int (iZ dn), .int (iZ al)] (zPm (dC, dI) vwCl [(hp, .inr (2, [.int (iZ w), .int (iZ h), .int (iZ mn), .ref hw, .ref hs, .ref hk])), (hs, .inl (cL, 16384, .inr (.inl (aL Sp)))), (hk, .inl (cL, 64, .inr (.inl (aL Bk))))] [(cL, .long)] sz)) (va_Qv (fun (u : Int → Int64) => (∀ k : Int, 0 ≤ k → k < 64 → u ((dn * 64 + k) * 16 + al) = Bk k) ∧ ∀ i : Int, (∀ k : Int, 0 ≤ k → k < 64 → i ≠ (dn * 64 + k) * 16 + al) → u i = Sp i) (fun u => zB (dC, dI) vwCl [(cL, .long)] (va_A [(hp, .inr (2, [.int (iZ w), .int (iZ h), .int (iZ mn), .ref hw, .ref hs, .ref hk])), (hs, .inl (cL, 16384, .inr (.inl (aL Sp)))), (hk, .inl (cL, 64, .inr (.inl (aL Bk))))] sz) [(hp, .inr (2, [.int (iZ w), .int (iZ h), .int (iZ mn), .ref hw, .ref hs, .ref hk])), (hs, .inl (cL, 16384, .inr (.inl (aL u)))), (hk, .inl (cL, 64, .inr (.inl (aL Bk))))]) (va_A [(hp, .inr (2, [.int (iZ w), .int (iZ h), .int (iZ mn), .ref hw, .ref hs, .ref hk])), (hs, .inl (cL, 16384, .inr (.inl (aL Sp)))), (hk, .inl (cL, 64, .inr (.inl (aL Bk))))] sz)) 0 0 (va_A [(hp, .inr (2, [.int (iZ w), .int (iZ h), .int (iZ mn), .ref hw, .ref hs, .ref hk])), (hs, .inl (cL, 16384, .inr (.inl (aL Sp)))), (hk, .inl (cL, 64, .inr (.inl (aL Bk))))] sz) := by
  refine Met.ofW (cc := c_yPa_putBlock) (maxL := 4) (ret := none) (by decide) rfl ?_
  intro p e s m args below meth c s₁ B hml hv
  obtain ⟨rfl, hsz, hP, hK, hD0⟩ := hv
  have hx := B.exec
  have hb := B.bytes
  have hr := B.returns
  have hts0 := atoms_spec (ws := w_Pa_putBlock) B.pre
  have hts : ∀ w ∈ gT, w.before _ s = true := fun w h => hts0 w (List.mem_cons_of_mem _ h)
  have hown : s.vm.findClass R_Pa = some m.cls := findClass_of_methodNamed B.named
  have hlocks := B.notSynchronized
  subst hsz
  have hD := hD0.self (sz := s.heap.size)
  generalize hAe : va_A [(hp, .inr (2, [.int (iZ w), .int (iZ h), .int (iZ mn), .ref hw, .ref hs, .ref hk])), (hs, .inl (cL, 16384, .inr (.inl (aL Sp)))), (hk, .inl (cL, 64, .inr (.inl (aL Bk))))] s.heap.size = A at hD ⊢
  have hA : ∀ q : Nat, s.heap.size ≤ q → A q := fun q h => by rw [← hAe]; exact Or.inr h
  obtain ⟨H, hH⟩ : ∃ H, s.heap = H := ⟨_, rfl⟩
  have hS : va_S A s.heap H [] := by rw [← hH]; exact va_S.rf
  rw [hH] at hP
  rw [hH]
  have hl := lv_entry ([.ref hp, .int (iZ dn), .int (iZ al)]) (n := 4) (Nat.le_of_ble_eq_true rfl)
  rw [lg_entry_eq]
  generalize (lg_sl ([.ref hp, .int (iZ dn), .int (iZ al)]) ++ List.replicate (4 - (lg_sl ([.ref hp, .int (iZ dn), .int (iZ al)])).length) Slot.unset).toArray = ls at hl ⊢
  have hl : lv_has ls 4 [(0, .ref hp), (1, .int (iZ dn)), (2, .int (iZ al))] := hl
  refine lv_iconst (v := iZ (0)) hx hb d_Pa_putBlock_0 rfl ?_
  refine lv_istore_n (lv' := [(3, .int (iZ 0)), (0, .ref hp), (1, .int (iZ dn)), (2, .int (iZ al))]) hx hb d_Pa_putBlock_1 rfl hl (by decide) rfl (fun ls hl => ?_)
  have LP_2 : ∀ (n_2 : Nat) (k : Int) (K : Int → Int64), (0 ≤ k) → (k ≤ 64) → (∀ j : Int, 0 ≤ j → j < k → K ((dn * 64 + j) * 16 + al) = Bk j) → (∀ i : Int, (∀ k : Int, 0 ≤ k → k < 64 → i ≠ (dn * 64 + k) * 16 + al) → K i = Sp i) → (64 - k).toNat < n_2 → ∀ (H : Heap) (locs : List Loc), va_P (dC, dI) vwCl [(hp, .inr (2, [.int (iZ w), .int (iZ h), .int (iZ mn), .ref hw, .ref hs, .ref hk])), (hs, .inl (cL, 16384, .inr (.inl (aL K)))), (hk, .inl (cL, 64, .inr (.inl (aL Bk))))] H → va_D A [(hp, .inr (2, [.int (iZ w), .int (iZ h), .int (iZ mn), .ref hw, .ref hs, .ref hk])), (hs, .inl (cL, 16384, .inr (.inl (aL K)))), (hk, .inl (cL, 64, .inr (.inl (aL Bk))))] → va_S A s.heap H locs → ∀ (ls : Array Slot), lv_has ls 4 [(0, .ref hp), (1, .int (iZ dn)), (2, .int (iZ al)), (3, .int (iZ k))] → W p l e ({ frames := 0, cells := 0, slots := 0, locals := 0 } : Room) s m ([.ref hp, .int (iZ dn), .int (iZ al)] : List Value).toArray below meth c H locs 0 0 (MQ below (va_Qv (fun (u : Int → Int64) => (∀ k : Int, 0 ≤ k → k < 64 → u ((dn * 64 + k) * 16 + al) = Bk k) ∧ ∀ i : Int, (∀ k : Int, 0 ≤ k → k < 64 → i ≠ (dn * 64 + k) * 16 + al) → u i = Sp i) (fun u => zB (dC, dI) vwCl [(cL, .long)] A [(hp, .inr (2, [.int (iZ w), .int (iZ h), .int (iZ mn), .ref hw, .ref hs, .ref hk])), (hs, .inl (cL, 16384, .inr (.inl (aL u)))), (hk, .inl (cL, 64, .inr (.inl (aL Bk))))]) A) ([.ref hp, .int (iZ dn), .int (iZ al)] : List Value).toArray s 0 0 A) (F0 m 2 ls []) := by
    intro n_2
    induction n_2 with
    | zero => intro k K i1 i2 i3 i4 hm; exact absurd hm (by omega)
    | succ n_2 ih_2 =>
      intro k K i1 i2 i3 i4 hm_2 H locs hP hD hS ls hl
      refine lv_iload_n hx hb d_Pa_putBlock_2 rfl (lv_at hl 3 rfl) ?_
      refine lv_bipush (v := iZ (64)) hx hb d_Pa_putBlock_3 (by decide) ?_
      refine zi_ge (tgt := 36) hx hb d_Pa_putBlock_5 (by decide) (by omega) (by omega) (by omega) (by omega) (fun c_5 => ?_) (fun c_5 => ?_)
      · exact W.vret hx hb hr (fun t ht hW => ⟨⟨K, rfl, ⟨fun j j1 j2 => i3 j j1 (by omega), i4⟩, by rw [ht]; exact hP, va_K.moved hW.alike hK, hD⟩, hS.F ht⟩) hS.2.2 d_Pa_putBlock_36
      · refine lv_aload_n hx hb d_Pa_putBlock_8 rfl (lv_at hl 0 rfl) ?_
        refine va_get (D := (dC, dI)) (ci := 2) (v := .ref hs) (C := R_Pa) (T := T_Pa) (N := 6) hx hb hts wi_Pa hown hK hP 0 rfl rfl 4 (by decide) (hts _ t_40) (fun _ h9 => h9) rfl d_Pa_putBlock_9 ?_
        refine lv_iload_n hx hb d_Pa_putBlock_12 rfl (lv_at hl 1 rfl) ?_
        refine lv_bipush (v := iZ (64)) hx hb d_Pa_putBlock_13 (by decide) ?_
        refine zi_mul hx hb d_Pa_putBlock_15 ?_
        refine lv_iload_n hx hb d_Pa_putBlock_16 rfl (lv_at hl 3 rfl) ?_
        refine zi_add hx hb d_Pa_putBlock_17 ?_
        refine lv_bipush (v := iZ (16)) hx hb d_Pa_putBlock_18 (by decide) ?_
        refine zi_mul hx hb d_Pa_putBlock_20 ?_
        refine lv_iload_n hx hb d_Pa_putBlock_21 rfl (lv_at hl 2 rfl) ?_
        refine zi_add hx hb d_Pa_putBlock_22 ?_
        refine lv_aload_n hx hb d_Pa_putBlock_23 rfl (lv_at hl 0 rfl) ?_
        refine va_get (D := (dC, dI)) (ci := 2) (v := .ref hk) (C := R_Pa) (T := T_Pa) (N := 6) hx hb hts wi_Pa hown hK hP 0 rfl rfl 5 (by decide) (hts _ t_41) (fun _ h9 => h9) rfl d_Pa_putBlock_24 ?_
        refine lv_iload_n hx hb d_Pa_putBlock_27 rfl (lv_at hl 3 rfl) ?_
        refine z_lald hx hb hK hP 2 0 rfl rfl (by omega) (by omega) (by omega) d_Pa_putBlock_28 ?_
        refine z_last hx hb hK hP hD hS 1 0 rfl rfl (by omega) (by omega) (by omega) d_Pa_putBlock_29 (fun H locs hP hD hS => ?_)
        have hP : va_P (dC, dI) vwCl [(hp, .inr (2, [.int (iZ w), .int (iZ h), .int (iZ mn), .ref hw, .ref hs, .ref hk])), (hs, .inl (cL, 16384, .inr (.inl (aL (upZ K ((((dn * 64) + k) * 16) + al) (Bk k)))))), (hk, .inl (cL, 64, .inr (.inl (aL Bk))))] H := hP
        have hD : va_D A [(hp, .inr (2, [.int (iZ w), .int (iZ h), .int (iZ mn), .ref hw, .ref hs, .ref hk])), (hs, .inl (cL, 16384, .inr (.inl (aL (upZ K ((((dn * 64) + k) * 16) + al) (Bk k)))))), (hk, .inl (cL, 64, .inr (.inl (aL Bk))))] := hD
        refine lv_iinc (v := iZ (k + 1)) (lv' := [(3, .int (iZ (k + 1))), (0, .ref hp), (1, .int (iZ dn)), (2, .int (iZ al))]) hx hb d_Pa_putBlock_30 hl (k := 3) rfl (iZ_add _ _) (by decide) rfl (fun ls hl => ?_)
        refine lv_goto (tgt := 2) hx hb d_Pa_putBlock_33 (by decide) ?_
        exact ih_2 (k + 1) (upZ K ((((dn * 64) + k) * 16) + al) (Bk k)) (by omega) (by omega) (fun j j1 j2 => by by_cases q : j = k; (subst q; rw [upZ_s]); (rw [upZ_n _ _ (by omega)]; exact i3 j j1 (by omega))) (fun i q => by rw [upZ_n _ _ (q k i1 (by omega))]; exact i4 i q) (by omega) _ _ hP hD hS ls (lv_sub hl [1, 2, 3, 0] rfl)
  exact LP_2 _ 0 Sp (by omega) (by omega) (fun j j1 j2 => absurd j2 (by omega)) (fun i _ => rfl) (Nat.lt_succ_self _) _ _ hP hD hS ls (lv_sub hl [1, 2, 3, 0] rfl)
