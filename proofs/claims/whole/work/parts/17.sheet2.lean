/-! arrays of references by whole numbers; dots as bits -/
def aQ (F : Int → Option Nat) : Nat → Option Nat := fun n => F n
theorem z_aldq {p : Program} {l : Launch} {e : Env} {R : Room} {s : State} {m : MethodId} {args : Array Value} {below : List Frame} {meth : Method} {c : Code} {H : Heap} {locs : List Loc} {cells slots : Nat} {Q : State → Prop} {cc : ByteArray} {pc : Nat} {ls : Array Slot} {rest : List Value} {D : va_G} {cl : List vw_C} {a : Nat} {tys : List (ClassId × FieldType)} {ws : va_W}
    (hx : p.tables.exec = Jvm.exec) (hb : c.code = cc) (hK : va_K D cl tys s) (hP : va_P D cl ws H) (q0 t0 : Nat) {cA : ClassId} {C : String} {n : Nat} {F : Int → Option Nat} (ha : ws[q0]? = some (a, .inl (cA, n, .inr (.inr (.inr (.inr (aQ F))))))) (ht : tys[t0]? = some (cA, .object C)) {i : Int} (h1 : 0 ≤ i) (h2 : i < n) (hn : n < 2147483648) {v : Nat} (hv : F i = some v) (d : decode cc pc = .ok (.aaload, 1))
    (kk : W p l e R s m args below meth c H locs cells slots Q (F0 m (pc + 1) ls (.ref v :: rest))) : W p l e R s m args below meth c H locs cells slots Q (F0 m pc ls (.int (iZ i) :: .ref a :: rest)) := by
  refine va_aldq hx hb hK hP q0 t0 ha ht (iZ_in h1 h2 hn) d ?_
  rw [iZ_nat h1 (by omega), show aQ F i.toNat = some v from by show F (i.toNat : Int) = some v; rw [Int.toNat_of_nonneg h1, hv]]
  exact kk
def dtL (q : Int → Bool) : Nat → Int64
  | 0 => lZ 0
  | k + 1 => lZ 2 * dtL q k + (if q k then lZ 1 else lZ 0)
theorem dt_shl (a : Int64) : a <<< ((iZ 1).toInt64 &&& 63) = lZ 2 * a := by
  apply wb_inj
  rw [iZ_nI (by decide), wb_c _ (by decide), Int64.toBitVec_shiftLeft, wb_tb, wb_sm _ (by decide), BitVec.shiftLeft_eq', BitVec.toNat_ofNat, Int64.toBitVec_mul]
  apply BitVec.eq_of_toNat_eq
  rw [BitVec.toNat_shiftLeft, BitVec.toNat_mul, Nat.shiftLeft_eq]
  show a.toBitVec.toNat * 2 % 2 ^ 64 = 2 * a.toBitVec.toNat % 2 ^ 64
  rw [Nat.mul_comm]
theorem dt_or (a : Int64) (b : Bool) : (a <<< ((iZ 1).toInt64 &&& 63)) ||| (if b then lZ 1 else lZ 0) = lZ 2 * a + (if b then lZ 1 else lZ 0) := by
  rw [← dt_shl]
  apply wb_inj
  rw [Int64.toBitVec_or, Int64.toBitVec_add]
  symm
  apply BitVec.add_eq_or_of_and_eq_zero
  apply BitVec.eq_of_getLsbD_eq
  intro i hi
  rw [iZ_nI (by decide), wb_c _ (by decide), Int64.toBitVec_shiftLeft, wb_tb, wb_sm _ (by decide), BitVec.shiftLeft_eq', BitVec.toNat_ofNat, BitVec.getLsbD_and, BitVec.getLsbD_shiftLeft]
  cases b
  · show (_ && (0#64).getLsbD i) = _
    simp
  · show (_ && (1#64).getLsbD i) = _
    by_cases z : i = 0
    · subst z; simp
    · rw [show (1#64).getLsbD i = false by rw [BitVec.getLsbD_one]; simp [z], Bool.and_false]; simp
theorem d_D_dots_0 : decode c_yD_dots 0 = .ok (.iload_n 1, 1) := by decide +kernel
theorem d_D_dots_1 : decode c_yD_dots 1 = .ok (.invokestatic 90, 3) := by decide +kernel
theorem d_D_dots_4 : decode c_yD_dots 4 = .ok (.ifCond .eq 24, 3) := by decide +kernel
theorem d_D_dots_7 : decode c_yD_dots 7 = .ok (.iload_n 2, 1) := by decide +kernel
theorem d_D_dots_8 : decode c_yD_dots 8 = .ok (.invokestatic 90, 3) := by decide +kernel
theorem d_D_dots_11 : decode c_yD_dots 11 = .ok (.ifCond .eq 17, 3) := by decide +kernel
theorem d_D_dots_14 : decode c_yD_dots 14 = .ok (.iload_n 3, 1) := by decide +kernel
theorem d_D_dots_15 : decode c_yD_dots 15 = .ok (.iconst 1, 1) := by decide +kernel
theorem d_D_dots_16 : decode c_yD_dots 16 = .ok (.bipush 64, 2) := by decide +kernel
theorem d_D_dots_18 : decode c_yD_dots 18 = .ok (.invokestatic 39, 3) := by decide +kernel
theorem d_D_dots_21 : decode c_yD_dots 21 = .ok (.ifCond .eq 7, 3) := by decide +kernel
theorem d_D_dots_24 : decode c_yD_dots 24 = .ok (.iconst 1, 1) := by decide +kernel
theorem d_D_dots_25 : decode c_yD_dots 25 = .ok (.goto 4, 3) := by decide +kernel
theorem d_D_dots_28 : decode c_yD_dots 28 = .ok (.iconst 0, 1) := by decide +kernel
theorem d_D_dots_29 : decode c_yD_dots 29 = .ok (.invokestatic 43, 3) := by decide +kernel
theorem d_D_dots_32 : decode c_yD_dots 32 = .ok (.lconst 0, 1) := by decide +kernel
theorem d_D_dots_33 : decode c_yD_dots 33 = .ok (.lstore 4, 2) := by decide +kernel
theorem d_D_dots_35 : decode c_yD_dots 35 = .ok (.iconst 0, 1) := by decide +kernel
theorem d_D_dots_36 : decode c_yD_dots 36 = .ok (.istore 6, 2) := by decide +kernel
theorem d_D_dots_38 : decode c_yD_dots 38 = .ok (.iload 6, 2) := by decide +kernel
theorem d_D_dots_40 : decode c_yD_dots 40 = .ok (.iload_n 3, 1) := by decide +kernel
theorem d_D_dots_41 : decode c_yD_dots 41 = .ok (.if_icmp .ge 36, 3) := by decide +kernel
theorem d_D_dots_44 : decode c_yD_dots 44 = .ok (.lload 4, 2) := by decide +kernel
theorem d_D_dots_46 : decode c_yD_dots 46 = .ok (.iconst 1, 1) := by decide +kernel
theorem d_D_dots_47 : decode c_yD_dots 47 = .ok (.lshl, 1) := by decide +kernel
theorem d_D_dots_48 : decode c_yD_dots 48 = .ok (.aload_n 0, 1) := by decide +kernel
theorem d_D_dots_49 : decode c_yD_dots 49 = .ok (.getfield 10, 3) := by decide +kernel
theorem d_D_dots_52 : decode c_yD_dots 52 = .ok (.iload_n 1, 1) := by decide +kernel
theorem d_D_dots_53 : decode c_yD_dots 53 = .ok (.iload 6, 2) := by decide +kernel
theorem d_D_dots_55 : decode c_yD_dots 55 = .ok (.iadd, 1) := by decide +kernel
theorem d_D_dots_56 : decode c_yD_dots 56 = .ok (.iload_n 2, 1) := by decide +kernel
theorem d_D_dots_57 : decode c_yD_dots 57 = .ok (.invokevirtual 202, 3) := by decide +kernel
theorem d_D_dots_60 : decode c_yD_dots 60 = .ok (.ifCond .eq 7, 3) := by decide +kernel
theorem d_D_dots_63 : decode c_yD_dots 63 = .ok (.lconst 1, 1) := by decide +kernel
theorem d_D_dots_64 : decode c_yD_dots 64 = .ok (.goto 4, 3) := by decide +kernel
theorem d_D_dots_67 : decode c_yD_dots 67 = .ok (.lconst 0, 1) := by decide +kernel
theorem d_D_dots_68 : decode c_yD_dots 68 = .ok (.lor, 1) := by decide +kernel
theorem d_D_dots_69 : decode c_yD_dots 69 = .ok (.lstore 4, 2) := by decide +kernel
theorem d_D_dots_71 : decode c_yD_dots 71 = .ok (.iinc 6 1, 3) := by decide +kernel
theorem d_D_dots_74 : decode c_yD_dots 74 = .ok (.goto (-36), 3) := by decide +kernel
theorem d_D_dots_77 : decode c_yD_dots 77 = .ok (.lload 4, 2) := by decide +kernel
theorem d_D_dots_79 : decode c_yD_dots 79 = .ok (.lreturn, 1) := by decide +kernel
set_option maxHeartbeats 4000000 in
set_option maxRecDepth 100000 in
theorem c_DotSheet_dots (l : Launch) (hnt : l.stackTraces = false) (dC : Nat → ClassId) (dI : Nat → Nat → Nat) (sa : Nat → Nat) (hx_ hst hd hfa hp hw hs hk : Nat) (cL : ClassId) (w h mn : Int) (G : Int → Int64) (pic : Int → Int → Bool) (x y many : Int) (sz : Nat) (w1 : 1 ≤ w) (w2 : w ≤ 1024) (h1 : 1 ≤ h) (h2 : h ≤ 1024) (hR : Rep G pic) (hO : Off w h pic) (x1 : -2147483648 ≤ x) (y1 : -2147483648 ≤ y) (many1 : -2147483648 ≤ many) (x2 : x ≤ 2147483647) (y2 : y ≤ 2147483647) (many2 : many ≤ 2147483647) : vx_Met l y_D_dots w_D_dots ({ frames := 7, cells := 1, slots := 6, locals := 120 }) (va_Pc [.ref hx_, .int (iZ x), .int (iZ y), .int (iZ many)] (zPx (dC, dI) vwCl [(hx_, .inr (4, [.ref hp, .ref hst, .ref hd, .ref hfa])), (hp, .inr (2, [.int (iZ w), .int (iZ h), .int (iZ mn), .ref hw, .ref hs, .ref hk])), (hw, .inl (cL, 16384, .inr (.inl (aL G))))] [(cL, .long)] sz sa)) (va_Ql (fun (r : Int64) (u : Unit) => r = dtL (fun k => pic (x + k) y) many.toNat ∧ (-4096 ≤ x ∧ x ≤ 4096 ∧ -4096 ≤ y ∧ y ≤ 4096 ∧ 1 ≤ many ∧ many ≤ 64)) (fun u => zB (dC, dI) vwCl [(cL, .long)] (va_A [(hx_, .inr (4, [.ref hp, .ref hst, .ref hd, .ref hfa])), (hp, .inr (2, [.int (iZ w), .int (iZ h), .int (iZ mn), .ref hw, .ref hs, .ref hk])), (hw, .inl (cL, 16384, .inr (.inl (aL G))))] sz) [(hx_, .inr (4, [.ref hp, .ref hst, .ref hd, .ref hfa])), (hp, .inr (2, [.int (iZ w), .int (iZ h), .int (iZ mn), .ref hw, .ref hs, .ref hk])), (hw, .inl (cL, 16384, .inr (.inl (aL G))))]) (va_A [(hx_, .inr (4, [.ref hp, .ref hst, .ref hd, .ref hfa])), (hp, .inr (2, [.int (iZ w), .int (iZ h), .int (iZ mn), .ref hw, .ref hs, .ref hk])), (hw, .inl (cL, 16384, .inr (.inl (aL G))))] sz)) (zX (fun E => E = "java/lang/IllegalArgumentException" ∧ ¬ (-4096 ≤ x ∧ x ≤ 4096 ∧ -4096 ≤ y ∧ y ≤ 4096 ∧ 1 ≤ many ∧ many ≤ 64)) (dC, dI) vwCl [(cL, .long)] (va_A [(hx_, .inr (4, [.ref hp, .ref hst, .ref hd, .ref hfa])), (hp, .inr (2, [.int (iZ w), .int (iZ h), .int (iZ mn), .ref hw, .ref hs, .ref hk])), (hw, .inl (cL, 16384, .inr (.inl (aL G))))] sz) [(hx_, .inr (4, [.ref hp, .ref hst, .ref hd, .ref hfa])), (hp, .inr (2, [.int (iZ w), .int (iZ h), .int (iZ mn), .ref hw, .ref hs, .ref hk])), (hw, .inl (cL, 16384, .inr (.inl (aL G))))]) 1 6 (va_A [(hx_, .inr (4, [.ref hp, .ref hst, .ref hd, .ref hfa])), (hp, .inr (2, [.int (iZ w), .int (iZ h), .int (iZ mn), .ref hw, .ref hs, .ref hk])), (hw, .inl (cL, 16384, .inr (.inl (aL G))))] sz) := by
  refine vx_ofW (cc := c_yD_dots) (maxL := 7) (ret := (some .long)) (by decide) rfl ?_
  intro p e s m args below meth c s₁ B hml noEx hv
  obtain ⟨rfl, hsz, hP, hK, hD0, hXK⟩ := hv
  have hx := B.exec
  have hb := B.bytes
  have hr := B.returns
  have hts0 := atoms_spec (ws := w_D_dots) B.pre
  have hts : ∀ w ∈ gT, w.before _ s = true := fun w h => hts0 w (List.mem_cons_of_mem _ h)
  have hown : s.vm.findClass R_D = some m.cls := findClass_of_methodNamed B.named
  have hlocks := B.notSynchronized
  subst hsz
  have hD := hD0.self (sz := s.heap.size)
  generalize hAe : va_A [(hx_, .inr (4, [.ref hp, .ref hst, .ref hd, .ref hfa])), (hp, .inr (2, [.int (iZ w), .int (iZ h), .int (iZ mn), .ref hw, .ref hs, .ref hk])), (hw, .inl (cL, 16384, .inr (.inl (aL G))))] s.heap.size = A at hD hXK ⊢
  have hA : ∀ q : Nat, s.heap.size ≤ q → A q := fun q h => by rw [← hAe]; exact Or.inr h
  obtain ⟨H, hH⟩ : ∃ H, s.heap = H := ⟨_, rfl⟩
  have hS : va_S A s.heap H [] := by rw [← hH]; exact va_S.rf
  rw [hH] at hP
  rw [hH]
  have hl := lv_entry ([.ref hx_, .int (iZ x), .int (iZ y), .int (iZ many)]) (n := 7) (Nat.le_of_ble_eq_true rfl)
  rw [lg_entry_eq]
  generalize (lg_sl ([.ref hx_, .int (iZ x), .int (iZ y), .int (iZ many)]) ++ List.replicate (7 - (lg_sl ([.ref hx_, .int (iZ x), .int (iZ y), .int (iZ many)])).length) Slot.unset).toArray = ls at hl ⊢
  have hl : lv_has ls 7 [(0, .ref hx_), (1, .int (iZ x)), (2, .int (iZ y)), (3, .int (iZ many))] := hl
  refine lv_iload_n hx hb d_D_dots_0 rfl (lv_at hl 1 rfl) ?_
  refine vp_callSi (va_runS (As := [.int (iZ x)]) (rest := []) ⟨hx, hb, hml, hown, hts⟩ (c_DotSheet_isPlace l dC dI x (by first | omega | assumption) (by first | omega | assumption)) (va_cwS 1 hts (gS t_259 t_260 t_1 t_261) rfl rfl rfl (by decide +kernel) ⟨Nat.le_of_ble_eq_true rfl, Nat.le_of_ble_eq_true rfl⟩) ⟨zPr_blind, zPr_pre hP hK [] [] rfl rfl⟩ rfl rfl hl.1 rfl (lv_room (Nat.le_of_ble_eq_true rfl)) d_D_dots_1 ⟨Nat.le_of_ble_eq_true rfl, Nat.le_of_ble_eq_true rfl⟩).run (fun r_1 q_1 => ?_)
  obtain rfl := q_1
  refine zb_if_eq (tgt := 28) hx hb d_D_dots_4 (by decide) (fun c_4 => ?_) (fun c_4 => ?_)
  · have c_4 := of_decide_eq_false c_4
    refine lv_iconst (v := iZ (0)) hx hb d_D_dots_28 rfl ?_
    refine zx_v (w1 := fun (u_29 : Unit) => []) (wr := [(hx_, .inr (4, [.ref hp, .ref hst, .ref hd, .ref hfa])), (hp, .inr (2, [.int (iZ w), .int (iZ h), .int (iZ mn), .ref hw, .ref hs, .ref hk])), (hw, .inl (cL, 16384, .inr (.inl (aL G))))]) (vx_runS (As := [.int (bI false)]) (rest := []) ⟨hx, hb, hml, hown, hts⟩ (c_DotSheet_demand l hnt dC dI sa false H.size ) (va_cwS 1 hts (gS t_154 t_155 t_1 t_156) rfl rfl rfl (by decide +kernel) ⟨Nat.le_of_ble_eq_true rfl, Nat.le_of_ble_eq_true rfl⟩) ⟨zPx_blind, zPx_pre hP hD hK hXK hS hA [] [] rfl rfl rfl rfl⟩ rfl rfl hl.1 rfl (lv_room (Nat.le_of_ble_eq_true rfl)) d_D_dots_29 ⟨Nat.le_of_ble_eq_true rfl, Nat.le_of_ble_eq_true rfl⟩) hP hD hS hA [] [0, 1, 2] rfl rfl rfl (by decide) (fun E_ ce_ q9_ H locs x_29 hP hD hS hce hcv hcl => ?_) (fun u_29 H locs q_29 hP hD hS => ?_)
    · have hP : va_P (dC, dI) vwCl [(hx_, .inr (4, [.ref hp, .ref hst, .ref hd, .ref hfa])), (hp, .inr (2, [.int (iZ w), .int (iZ h), .int (iZ mn), .ref hw, .ref hs, .ref hk])), (hw, .inl (cL, 16384, .inr (.inl (aL G))))] H := hP
      have hD : va_D A [(hx_, .inr (4, [.ref hp, .ref hst, .ref hd, .ref hfa])), (hp, .inr (2, [.int (iZ w), .int (iZ h), .int (iZ mn), .ref hw, .ref hs, .ref hk])), (hw, .inl (cL, 16384, .inr (.inl (aL G))))] := hD
      exact vx_out (fun x9 h9 => (noEx x9 h9).elim) hlocks hce hcv hcl (fun t ht ha => ⟨(), trivial, ⟨⟨x_29.1, by omega⟩, by rw [ht]; exact hP, va_K.moved ha hK, hD⟩, hS.F ht⟩) hS.2.2 (Nat.le_of_ble_eq_true rfl) (Nat.le_of_ble_eq_true rfl)
    exact absurd q_29 (by decide)
  · have c_4 := of_decide_eq_true c_4
    refine lv_iload_n hx hb d_D_dots_7 rfl (lv_at hl 2 rfl) ?_
    refine vp_callSi (va_runS (As := [.int (iZ y)]) (rest := []) ⟨hx, hb, hml, hown, hts⟩ (c_DotSheet_isPlace l dC dI y (by first | omega | assumption) (by first | omega | assumption)) (va_cwS 1 hts (gS t_259 t_260 t_1 t_261) rfl rfl rfl (by decide +kernel) ⟨Nat.le_of_ble_eq_true rfl, Nat.le_of_ble_eq_true rfl⟩) ⟨zPr_blind, zPr_pre hP hK [] [] rfl rfl⟩ rfl rfl hl.1 rfl (lv_room (Nat.le_of_ble_eq_true rfl)) d_D_dots_8 ⟨Nat.le_of_ble_eq_true rfl, Nat.le_of_ble_eq_true rfl⟩).run (fun r_8 q_8 => ?_)
    obtain rfl := q_8
    refine zb_if_eq (tgt := 28) hx hb d_D_dots_11 (by decide) (fun c_11 => ?_) (fun c_11 => ?_)
    · have c_11 := of_decide_eq_false c_11
      refine lv_iconst (v := iZ (0)) hx hb d_D_dots_28 rfl ?_
      refine zx_v (w1 := fun (u_29 : Unit) => []) (wr := [(hx_, .inr (4, [.ref hp, .ref hst, .ref hd, .ref hfa])), (hp, .inr (2, [.int (iZ w), .int (iZ h), .int (iZ mn), .ref hw, .ref hs, .ref hk])), (hw, .inl (cL, 16384, .inr (.inl (aL G))))]) (vx_runS (As := [.int (bI false)]) (rest := []) ⟨hx, hb, hml, hown, hts⟩ (c_DotSheet_demand l hnt dC dI sa false H.size ) (va_cwS 1 hts (gS t_154 t_155 t_1 t_156) rfl rfl rfl (by decide +kernel) ⟨Nat.le_of_ble_eq_true rfl, Nat.le_of_ble_eq_true rfl⟩) ⟨zPx_blind, zPx_pre hP hD hK hXK hS hA [] [] rfl rfl rfl rfl⟩ rfl rfl hl.1 rfl (lv_room (Nat.le_of_ble_eq_true rfl)) d_D_dots_29 ⟨Nat.le_of_ble_eq_true rfl, Nat.le_of_ble_eq_true rfl⟩) hP hD hS hA [] [0, 1, 2] rfl rfl rfl (by decide) (fun E_ ce_ q9_ H locs x_29 hP hD hS hce hcv hcl => ?_) (fun u_29 H locs q_29 hP hD hS => ?_)
      · have hP : va_P (dC, dI) vwCl [(hx_, .inr (4, [.ref hp, .ref hst, .ref hd, .ref hfa])), (hp, .inr (2, [.int (iZ w), .int (iZ h), .int (iZ mn), .ref hw, .ref hs, .ref hk])), (hw, .inl (cL, 16384, .inr (.inl (aL G))))] H := hP
        have hD : va_D A [(hx_, .inr (4, [.ref hp, .ref hst, .ref hd, .ref hfa])), (hp, .inr (2, [.int (iZ w), .int (iZ h), .int (iZ mn), .ref hw, .ref hs, .ref hk])), (hw, .inl (cL, 16384, .inr (.inl (aL G))))] := hD
        exact vx_out (fun x9 h9 => (noEx x9 h9).elim) hlocks hce hcv hcl (fun t ht ha => ⟨(), trivial, ⟨⟨x_29.1, by omega⟩, by rw [ht]; exact hP, va_K.moved ha hK, hD⟩, hS.F ht⟩) hS.2.2 (Nat.le_of_ble_eq_true rfl) (Nat.le_of_ble_eq_true rfl)
      exact absurd q_29 (by decide)
    · have c_11 := of_decide_eq_true c_11
      refine lv_iload_n hx hb d_D_dots_14 rfl (lv_at hl 3 rfl) ?_
      refine lv_iconst (v := iZ (1)) hx hb d_D_dots_15 rfl ?_
      refine lv_bipush (v := iZ (64)) hx hb d_D_dots_16 (by decide) ?_
      refine vp_callSi (va_runS (As := [.int (iZ many), .int (iZ 1), .int (iZ 64)]) (rest := []) ⟨hx, hb, hml, hown, hts⟩ (c_DotSheet_isWithin l dC dI many 1 64 (by first | omega | assumption) (by first | omega | assumption) (by first | omega | assumption) (by first | omega | assumption) (by first | omega | assumption) (by first | omega | assumption)) (va_cwS 3 hts (gS t_151 t_152 t_1 t_153) rfl rfl rfl (by decide +kernel) ⟨Nat.le_of_ble_eq_true rfl, Nat.le_of_ble_eq_true rfl⟩) ⟨zPr_blind, zPr_pre hP hK [] [] rfl rfl⟩ rfl rfl hl.1 rfl (lv_room (Nat.le_of_ble_eq_true rfl)) d_D_dots_18 ⟨Nat.le_of_ble_eq_true rfl, Nat.le_of_ble_eq_true rfl⟩).run (fun r_18 q_18 => ?_)
      obtain rfl := q_18
      refine zb_if_eq (tgt := 28) hx hb d_D_dots_21 (by decide) (fun c_21 => ?_) (fun c_21 => ?_)
      · have c_21 := of_decide_eq_false c_21
        refine lv_iconst (v := iZ (0)) hx hb d_D_dots_28 rfl ?_
        refine zx_v (w1 := fun (u_29 : Unit) => []) (wr := [(hx_, .inr (4, [.ref hp, .ref hst, .ref hd, .ref hfa])), (hp, .inr (2, [.int (iZ w), .int (iZ h), .int (iZ mn), .ref hw, .ref hs, .ref hk])), (hw, .inl (cL, 16384, .inr (.inl (aL G))))]) (vx_runS (As := [.int (bI false)]) (rest := []) ⟨hx, hb, hml, hown, hts⟩ (c_DotSheet_demand l hnt dC dI sa false H.size ) (va_cwS 1 hts (gS t_154 t_155 t_1 t_156) rfl rfl rfl (by decide +kernel) ⟨Nat.le_of_ble_eq_true rfl, Nat.le_of_ble_eq_true rfl⟩) ⟨zPx_blind, zPx_pre hP hD hK hXK hS hA [] [] rfl rfl rfl rfl⟩ rfl rfl hl.1 rfl (lv_room (Nat.le_of_ble_eq_true rfl)) d_D_dots_29 ⟨Nat.le_of_ble_eq_true rfl, Nat.le_of_ble_eq_true rfl⟩) hP hD hS hA [] [0, 1, 2] rfl rfl rfl (by decide) (fun E_ ce_ q9_ H locs x_29 hP hD hS hce hcv hcl => ?_) (fun u_29 H locs q_29 hP hD hS => ?_)
        · have hP : va_P (dC, dI) vwCl [(hx_, .inr (4, [.ref hp, .ref hst, .ref hd, .ref hfa])), (hp, .inr (2, [.int (iZ w), .int (iZ h), .int (iZ mn), .ref hw, .ref hs, .ref hk])), (hw, .inl (cL, 16384, .inr (.inl (aL G))))] H := hP
          have hD : va_D A [(hx_, .inr (4, [.ref hp, .ref hst, .ref hd, .ref hfa])), (hp, .inr (2, [.int (iZ w), .int (iZ h), .int (iZ mn), .ref hw, .ref hs, .ref hk])), (hw, .inl (cL, 16384, .inr (.inl (aL G))))] := hD
          exact vx_out (fun x9 h9 => (noEx x9 h9).elim) hlocks hce hcv hcl (fun t ht ha => ⟨(), trivial, ⟨⟨x_29.1, by omega⟩, by rw [ht]; exact hP, va_K.moved ha hK, hD⟩, hS.F ht⟩) hS.2.2 (Nat.le_of_ble_eq_true rfl) (Nat.le_of_ble_eq_true rfl)
        exact absurd q_29 (by decide)
      · have c_21 := of_decide_eq_true c_21
        refine lv_iconst (v := iZ (1)) hx hb d_D_dots_24 rfl ?_
        refine lv_goto (tgt := 29) hx hb d_D_dots_25 (by decide) ?_
        refine zx_v (w1 := fun (u_29 : Unit) => []) (wr := [(hx_, .inr (4, [.ref hp, .ref hst, .ref hd, .ref hfa])), (hp, .inr (2, [.int (iZ w), .int (iZ h), .int (iZ mn), .ref hw, .ref hs, .ref hk])), (hw, .inl (cL, 16384, .inr (.inl (aL G))))]) (vx_runS (As := [.int (bI true)]) (rest := []) ⟨hx, hb, hml, hown, hts⟩ (c_DotSheet_demand l hnt dC dI sa true H.size ) (va_cwS 1 hts (gS t_154 t_155 t_1 t_156) rfl rfl rfl (by decide +kernel) ⟨Nat.le_of_ble_eq_true rfl, Nat.le_of_ble_eq_true rfl⟩) ⟨zPx_blind, zPx_pre hP hD hK hXK hS hA [] [] rfl rfl rfl rfl⟩ rfl rfl hl.1 rfl (lv_room (Nat.le_of_ble_eq_true rfl)) d_D_dots_29 ⟨Nat.le_of_ble_eq_true rfl, Nat.le_of_ble_eq_true rfl⟩) hP hD hS hA [] [0, 1, 2] rfl rfl rfl (by decide) (fun E_ ce_ q9_ H locs x_29 hP hD hS hce hcv hcl => ?_) (fun u_29 H locs q_29 hP hD hS => ?_)
        · exact absurd x_29.2 (by decide)
        have hP : va_P (dC, dI) vwCl [(hx_, .inr (4, [.ref hp, .ref hst, .ref hd, .ref hfa])), (hp, .inr (2, [.int (iZ w), .int (iZ h), .int (iZ mn), .ref hw, .ref hs, .ref hk])), (hw, .inl (cL, 16384, .inr (.inl (aL G))))] H := hP
        have hD : va_D A [(hx_, .inr (4, [.ref hp, .ref hst, .ref hd, .ref hfa])), (hp, .inr (2, [.int (iZ w), .int (iZ h), .int (iZ mn), .ref hw, .ref hs, .ref hk])), (hw, .inl (cL, 16384, .inr (.inl (aL G))))] := hD
        refine lv_lconst (v := lZ 0) hx hb d_D_dots_32 (by decide) ?_
        refine lv_lstore (lv' := [(4, .long (lZ 0)), (0, .ref hx_), (1, .int (iZ x)), (2, .int (iZ y)), (3, .int (iZ many))]) hx hb d_D_dots_33 hl (by decide) rfl (fun ls hl => ?_)
        refine lv_iconst (v := iZ (0)) hx hb d_D_dots_35 rfl ?_
        refine lv_istore (lv' := [(6, .int (iZ 0)), (4, .long (lZ 0)), (0, .ref hx_), (1, .int (iZ x)), (2, .int (iZ y)), (3, .int (iZ many))]) hx hb d_D_dots_36 hl (by decide) rfl (fun ls hl => ?_)
        have LP_38 : ∀ (n_38 : Nat) (i : Int) (acc : Int64) (n : Nat), (i = n) → (i ≤ many) → (acc = dtL (fun k => pic (x + k) y) n) → (many - i).toNat < n_38 → ∀ (H : Heap) (locs : List Loc), va_P (dC, dI) vwCl [(hx_, .inr (4, [.ref hp, .ref hst, .ref hd, .ref hfa])), (hp, .inr (2, [.int (iZ w), .int (iZ h), .int (iZ mn), .ref hw, .ref hs, .ref hk])), (hw, .inl (cL, 16384, .inr (.inl (aL G))))] H → va_D A [(hx_, .inr (4, [.ref hp, .ref hst, .ref hd, .ref hfa])), (hp, .inr (2, [.int (iZ w), .int (iZ h), .int (iZ mn), .ref hw, .ref hs, .ref hk])), (hw, .inl (cL, 16384, .inr (.inl (aL G))))] → va_S A s.heap H locs → ∀ (ls : Array Slot), lv_has ls 7 [(0, .ref hx_), (1, .int (iZ x)), (2, .int (iZ y)), (3, .int (iZ many)), (4, .long acc), (6, .int (iZ i))] → W p l e ({ frames := 7, cells := 1, slots := 6, locals := 120 } : Room) s m ([.ref hx_, .int (iZ x), .int (iZ y), .int (iZ many)] : List Value).toArray below meth c H locs 1 6 (vx_MQ below (va_Ql (fun (r : Int64) (u : Unit) => r = dtL (fun k => pic (x + k) y) many.toNat ∧ (-4096 ≤ x ∧ x ≤ 4096 ∧ -4096 ≤ y ∧ y ≤ 4096 ∧ 1 ≤ many ∧ many ≤ 64)) (fun u => zB (dC, dI) vwCl [(cL, .long)] A [(hx_, .inr (4, [.ref hp, .ref hst, .ref hd, .ref hfa])), (hp, .inr (2, [.int (iZ w), .int (iZ h), .int (iZ mn), .ref hw, .ref hs, .ref hk])), (hw, .inl (cL, 16384, .inr (.inl (aL G))))]) A) (zX (fun E => E = "java/lang/IllegalArgumentException" ∧ ¬ (-4096 ≤ x ∧ x ≤ 4096 ∧ -4096 ≤ y ∧ y ≤ 4096 ∧ 1 ≤ many ∧ many ≤ 64)) (dC, dI) vwCl [(cL, .long)] A [(hx_, .inr (4, [.ref hp, .ref hst, .ref hd, .ref hfa])), (hp, .inr (2, [.int (iZ w), .int (iZ h), .int (iZ mn), .ref hw, .ref hs, .ref hk])), (hw, .inl (cL, 16384, .inr (.inl (aL G))))]) ([.ref hx_, .int (iZ x), .int (iZ y), .int (iZ many)] : List Value).toArray s 1 6 A) (F0 m 38 ls []) := by
          intro n_38
          induction n_38 with
          | zero => intro i acc n i1 i2 i3 hm; exact absurd hm (by omega)
          | succ n_38 ih_38 =>
            intro i acc n i1 i2 i3 hm_38 H locs hP hD hS ls hl
            refine lv_iload hx hb d_D_dots_38 (lv_at hl 5 rfl) ?_
            refine lv_iload_n hx hb d_D_dots_40 rfl (lv_at hl 3 rfl) ?_
            refine zi_ge (tgt := 77) hx hb d_D_dots_41 (by decide) (by omega) (by omega) (by omega) (by omega) (fun c_41 => ?_) (fun c_41 => ?_)
            · refine lv_lload hx hb d_D_dots_77 (lv_at hl 4 rfl) ?_
              refine vx_ret ?_
              exact W.lret hx hb hr (fun t ht hW => ⟨⟨_, (()), rfl, ⟨by rw [i3, show many.toNat = n by omega], by omega⟩, by rw [ht]; exact hP, va_K.moved hW.alike hK, hD⟩, hS.F ht⟩) hS.2.2 d_D_dots_79
            · refine lv_lload hx hb d_D_dots_44 (lv_at hl 4 rfl) ?_
              refine lv_iconst (v := iZ (1)) hx hb d_D_dots_46 rfl ?_
              refine lv_lshl hx hb d_D_dots_47 rfl ?_
              refine lv_aload_n hx hb d_D_dots_48 rfl (lv_at hl 0 rfl) ?_
              refine va_get (D := (dC, dI)) (ci := 4) (v := .ref hp) (C := R_D) (T := T_D) (N := 4) hx hb hts wi_D hown hK hP 0 rfl rfl 0 (by decide) (hts _ t_126) (fun _ h9 => h9) rfl d_D_dots_49 ?_
              refine lv_iload_n hx hb d_D_dots_52 rfl (lv_at hl 1 rfl) ?_
              refine lv_iload hx hb d_D_dots_53 (lv_at hl 5 rfl) ?_
              refine zi_add hx hb d_D_dots_55 ?_
              refine lv_iload_n hx hb d_D_dots_56 rfl (lv_at hl 2 rfl) ?_
              refine vp_callSi (va_runV (As := [.int (iZ (x + i)), .int (iZ y)]) (rest := [.long (acc <<< (((iZ 1)).toInt64 &&& 63))]) ⟨hx, hb, hml, hown, hts⟩ (c_Paper_isDark l dC dI hp hw hs hk cL w h mn G pic (x + i) y (by first | omega | assumption) (by first | omega | assumption) (by first | omega | assumption) (by first | omega | assumption) (by first | omega | assumption) (by first | omega | assumption) (by first | omega | assumption) (by first | omega | assumption) (by first | omega | assumption) (by first | omega | assumption)) (cwV 2 hts (gV t_647 t_648 t_649 t_2 t_650) rfl rfl rfl (by decide +kernel) ⟨Nat.le_of_ble_eq_true rfl, Nat.le_of_ble_eq_true rfl⟩) ⟨zPr_blind, va_recv hK hP (ci := 2) (q0 := 1) rfl rfl, zPr_pre hP hK [1, 2] [0] rfl rfl⟩ rfl rfl hl.1 rfl (lv_room (Nat.le_of_ble_eq_true rfl)) d_D_dots_57 ⟨Nat.le_of_ble_eq_true rfl, Nat.le_of_ble_eq_true rfl⟩).run (fun r_57 q_57 => ?_)
              obtain rfl := q_57
              refine zb_if_eq (tgt := 67) hx hb d_D_dots_60 (by decide) (fun c_60 => ?_) (fun c_60 => ?_)
              · refine lv_lconst (v := lZ 0) hx hb d_D_dots_67 (by decide) ?_
                refine lv_lor hx hb d_D_dots_68 ?_
                refine lv_topl (fun v4_69 e_v4_69 => ?_)
                refine lv_lstore (lv' := [(4, .long v4_69), (0, .ref hx_), (1, .int (iZ x)), (2, .int (iZ y)), (3, .int (iZ many)), (6, .int (iZ i))]) hx hb d_D_dots_69 hl (by decide) rfl (fun ls hl => ?_)
                refine lv_iinc (v := iZ (i + 1)) (lv' := [(6, .int (iZ (i + 1))), (4, .long v4_69), (0, .ref hx_), (1, .int (iZ x)), (2, .int (iZ y)), (3, .int (iZ many))]) hx hb d_D_dots_71 hl (k := 5) rfl (iZ_add _ _) (by decide) rfl (fun ls hl => ?_)
                refine lv_goto (tgt := 38) hx hb d_D_dots_74 (by decide) ?_
                exact ih_38 (i + 1) v4_69 (n + 1) (by omega) (by omega) (by rw [e_v4_69, i3]; exact (by first | (have z9 := dt_or (dtL (fun k => pic (x + k) y) n) false; rw [if_neg (by decide)] at z9; rw [z9]; show _ = _ + (if pic (x + (n : Int)) y then _ else _); rw [← i1, c_60]; rfl) | (have z9 := dt_or (dtL (fun k => pic (x + k) y) n) true; rw [if_pos rfl] at z9; rw [z9]; show _ = _ + (if pic (x + (n : Int)) y then _ else _); rw [← i1, c_60]; rfl))) (by omega) _ _ hP hD hS ls (lv_sub hl [2, 3, 4, 5, 1, 0] rfl)
              · refine lv_lconst (v := lZ 1) hx hb d_D_dots_63 (by decide) ?_
                refine lv_goto (tgt := 68) hx hb d_D_dots_64 (by decide) ?_
                refine lv_lor hx hb d_D_dots_68 ?_
                refine lv_topl (fun v4_69 e_v4_69 => ?_)
                refine lv_lstore (lv' := [(4, .long v4_69), (0, .ref hx_), (1, .int (iZ x)), (2, .int (iZ y)), (3, .int (iZ many)), (6, .int (iZ i))]) hx hb d_D_dots_69 hl (by decide) rfl (fun ls hl => ?_)
                refine lv_iinc (v := iZ (i + 1)) (lv' := [(6, .int (iZ (i + 1))), (4, .long v4_69), (0, .ref hx_), (1, .int (iZ x)), (2, .int (iZ y)), (3, .int (iZ many))]) hx hb d_D_dots_71 hl (k := 5) rfl (iZ_add _ _) (by decide) rfl (fun ls hl => ?_)
                refine lv_goto (tgt := 38) hx hb d_D_dots_74 (by decide) ?_
                exact ih_38 (i + 1) v4_69 (n + 1) (by omega) (by omega) (by rw [e_v4_69, i3]; exact (by first | (have z9 := dt_or (dtL (fun k => pic (x + k) y) n) false; rw [if_neg (by decide)] at z9; rw [z9]; show _ = _ + (if pic (x + (n : Int)) y then _ else _); rw [← i1, c_60]; rfl) | (have z9 := dt_or (dtL (fun k => pic (x + k) y) n) true; rw [if_pos rfl] at z9; rw [z9]; show _ = _ + (if pic (x + (n : Int)) y then _ else _); rw [← i1, c_60]; rfl))) (by omega) _ _ hP hD hS ls (lv_sub hl [2, 3, 4, 5, 1, 0] rfl)
        exact LP_38 _ 0 (lZ 0) 0 (rfl) (by omega) (rfl) (Nat.lt_succ_self _) _ _ hP hD hS ls (lv_sub hl [2, 3, 4, 5, 1, 0] rfl)
theorem d_D_run_0 : decode c_yD_run 0 = .ok (.iload_n 1, 1) := by decide +kernel
theorem d_D_run_1 : decode c_yD_run 1 = .ok (.invokestatic 90, 3) := by decide +kernel
theorem d_D_run_4 : decode c_yD_run 4 = .ok (.ifCond .eq 14, 3) := by decide +kernel
theorem d_D_run_7 : decode c_yD_run 7 = .ok (.iload_n 2, 1) := by decide +kernel
theorem d_D_run_8 : decode c_yD_run 8 = .ok (.invokestatic 90, 3) := by decide +kernel
theorem d_D_run_11 : decode c_yD_run 11 = .ok (.ifCond .eq 7, 3) := by decide +kernel
theorem d_D_run_14 : decode c_yD_run 14 = .ok (.iconst 1, 1) := by decide +kernel
theorem d_D_run_15 : decode c_yD_run 15 = .ok (.goto 4, 3) := by decide +kernel
theorem d_D_run_18 : decode c_yD_run 18 = .ok (.iconst 0, 1) := by decide +kernel
theorem d_D_run_19 : decode c_yD_run 19 = .ok (.invokestatic 43, 3) := by decide +kernel
theorem d_D_run_22 : decode c_yD_run 22 = .ok (.aload_n 0, 1) := by decide +kernel
theorem d_D_run_23 : decode c_yD_run 23 = .ok (.getfield 10, 3) := by decide +kernel
theorem d_D_run_26 : decode c_yD_run 26 = .ok (.iload_n 1, 1) := by decide +kernel
theorem d_D_run_27 : decode c_yD_run 27 = .ok (.iload_n 2, 1) := by decide +kernel
theorem d_D_run_28 : decode c_yD_run 28 = .ok (.invokevirtual 206, 3) := by decide +kernel
theorem d_D_run_31 : decode c_yD_run 31 = .ok (.ifCond .ne 13, 3) := by decide +kernel
theorem d_D_run_34 : decode c_yD_run 34 = .ok (.new 124, 3) := by decide +kernel
theorem d_D_run_37 : decode c_yD_run 37 = .ok (.dup, 1) := by decide +kernel
theorem d_D_run_38 : decode c_yD_run 38 = .ok (.ldc 209, 2) := by decide +kernel
theorem d_D_run_40 : decode c_yD_run 40 = .ok (.invokespecial 128, 3) := by decide +kernel
theorem d_D_run_43 : decode c_yD_run 43 = .ok (.athrow, 1) := by decide +kernel
theorem d_D_run_44 : decode c_yD_run 44 = .ok (.iload 4, 2) := by decide +kernel
theorem d_D_run_46 : decode c_yD_run 46 = .ok (.ifCond .eq 16, 3) := by decide +kernel
theorem d_D_run_49 : decode c_yD_run 49 = .ok (.aload_n 0, 1) := by decide +kernel
theorem d_D_run_50 : decode c_yD_run 50 = .ok (.getfield 10, 3) := by decide +kernel
theorem d_D_run_53 : decode c_yD_run 53 = .ok (.iload_n 1, 1) := by decide +kernel
theorem d_D_run_54 : decode c_yD_run 54 = .ok (.iload_n 2, 1) := by decide +kernel
theorem d_D_run_55 : decode c_yD_run 55 = .ok (.iload_n 3, 1) := by decide +kernel
theorem d_D_run_56 : decode c_yD_run 56 = .ok (.invokevirtual 211, 3) := by decide +kernel
theorem d_D_run_59 : decode c_yD_run 59 = .ok (.goto 13, 3) := by decide +kernel
theorem d_D_run_62 : decode c_yD_run 62 = .ok (.aload_n 0, 1) := by decide +kernel
theorem d_D_run_63 : decode c_yD_run 63 = .ok (.getfield 10, 3) := by decide +kernel
theorem d_D_run_66 : decode c_yD_run 66 = .ok (.iload_n 1, 1) := by decide +kernel
theorem d_D_run_67 : decode c_yD_run 67 = .ok (.iload_n 2, 1) := by decide +kernel
theorem d_D_run_68 : decode c_yD_run 68 = .ok (.iload_n 3, 1) := by decide +kernel
theorem d_D_run_69 : decode c_yD_run 69 = .ok (.invokevirtual 214, 3) := by decide +kernel
theorem d_D_run_72 : decode c_yD_run 72 = .ok (.ireturn, 1) := by decide +kernel
set_option maxHeartbeats 4000000 in
set_option maxRecDepth 100000 in
theorem c_DotSheet_run (l : Launch) (hnt : l.stackTraces = false) (dC : Nat → ClassId) (dI : Nat → Nat → Nat) (sa : Nat → Nat) (hx_ hst hd hfa hp hw hs hk : Nat) (cL : ClassId) (w h mn : Int) (G : Int → Int64) (pic : Int → Int → Bool) (x y i : Int) (dw : Bool) (sz : Nat) (w1 : 1 ≤ w) (w2 : w ≤ 1024) (h1 : 1 ≤ h) (h2 : h ≤ 1024) (hR : Rep G pic) (hO : Off w h pic) (x1 : -2147483648 ≤ x) (y1 : -2147483648 ≤ y) (i1 : -2147483648 ≤ i) (x2 : x ≤ 2147483647) (y2 : y ≤ 2147483647) (i2 : i ≤ 2147483647) : vx_Met l y_D_run w_D_run ({ frames := 7, cells := 2, slots := 12, locals := 120 }) (va_Pc [.ref hx_, .int (iZ x), .int (iZ y), .int (iZ i), .int (bI dw)] (zPx (dC, dI) vwCl [(hx_, .inr (4, [.ref hp, .ref hst, .ref hd, .ref hfa])), (hp, .inr (2, [.int (iZ w), .int (iZ h), .int (iZ mn), .ref hw, .ref hs, .ref hk])), (hw, .inl (cL, 16384, .inr (.inl (aL G))))] [(cL, .long)] sz sa)) (va_Qi (fun (r : Int32) (u : Unit) => r = iZ (if dw then runS (fun k => pic (x + k * 0) (y + k * 1)) (h - y) i else runS (fun k => pic (x + k * 1) (y + k * 0)) (w - x) i) ∧ (-4096 ≤ x ∧ x ≤ 4096 ∧ -4096 ≤ y ∧ y ≤ 4096) ∧ onB w h x y = true) (fun u => zB (dC, dI) vwCl [(cL, .long)] (va_A [(hx_, .inr (4, [.ref hp, .ref hst, .ref hd, .ref hfa])), (hp, .inr (2, [.int (iZ w), .int (iZ h), .int (iZ mn), .ref hw, .ref hs, .ref hk])), (hw, .inl (cL, 16384, .inr (.inl (aL G))))] sz) [(hx_, .inr (4, [.ref hp, .ref hst, .ref hd, .ref hfa])), (hp, .inr (2, [.int (iZ w), .int (iZ h), .int (iZ mn), .ref hw, .ref hs, .ref hk])), (hw, .inl (cL, 16384, .inr (.inl (aL G))))]) (va_A [(hx_, .inr (4, [.ref hp, .ref hst, .ref hd, .ref hfa])), (hp, .inr (2, [.int (iZ w), .int (iZ h), .int (iZ mn), .ref hw, .ref hs, .ref hk])), (hw, .inl (cL, 16384, .inr (.inl (aL G))))] sz)) (zX (fun E => (E = "java/lang/IllegalArgumentException" ∧ ¬ (-4096 ≤ x ∧ x ≤ 4096 ∧ -4096 ≤ y ∧ y ≤ 4096)) ∨ (E = "java/lang/IndexOutOfBoundsException" ∧ (-4096 ≤ x ∧ x ≤ 4096 ∧ -4096 ≤ y ∧ y ≤ 4096) ∧ onB w h x y = false)) (dC, dI) vwCl [(cL, .long)] (va_A [(hx_, .inr (4, [.ref hp, .ref hst, .ref hd, .ref hfa])), (hp, .inr (2, [.int (iZ w), .int (iZ h), .int (iZ mn), .ref hw, .ref hs, .ref hk])), (hw, .inl (cL, 16384, .inr (.inl (aL G))))] sz) [(hx_, .inr (4, [.ref hp, .ref hst, .ref hd, .ref hfa])), (hp, .inr (2, [.int (iZ w), .int (iZ h), .int (iZ mn), .ref hw, .ref hs, .ref hk])), (hw, .inl (cL, 16384, .inr (.inl (aL G))))]) 2 12 (va_A [(hx_, .inr (4, [.ref hp, .ref hst, .ref hd, .ref hfa])), (hp, .inr (2, [.int (iZ w), .int (iZ h), .int (iZ mn), .ref hw, .ref hs, .ref hk])), (hw, .inl (cL, 16384, .inr (.inl (aL G))))] sz) := by
  refine vx_ofW (cc := c_yD_run) (maxL := 5) (ret := (some .int)) (by decide) rfl ?_
  intro p e s m args below meth c s₁ B hml noEx hv
  obtain ⟨rfl, hsz, hP, hK, hD0, hXK⟩ := hv
  have hx := B.exec
  have hb := B.bytes
  have hr := B.returns
  have hts0 := atoms_spec (ws := w_D_run) B.pre
  have hts : ∀ w ∈ gT, w.before _ s = true := fun w h => hts0 w (List.mem_cons_of_mem _ h)
  have hown : s.vm.findClass R_D = some m.cls := findClass_of_methodNamed B.named
  have hlocks := B.notSynchronized
  subst hsz
  have hD := hD0.self (sz := s.heap.size)
  generalize hAe : va_A [(hx_, .inr (4, [.ref hp, .ref hst, .ref hd, .ref hfa])), (hp, .inr (2, [.int (iZ w), .int (iZ h), .int (iZ mn), .ref hw, .ref hs, .ref hk])), (hw, .inl (cL, 16384, .inr (.inl (aL G))))] s.heap.size = A at hD hXK ⊢
  have hA : ∀ q : Nat, s.heap.size ≤ q → A q := fun q h => by rw [← hAe]; exact Or.inr h
  obtain ⟨H, hH⟩ : ∃ H, s.heap = H := ⟨_, rfl⟩
  have hS : va_S A s.heap H [] := by rw [← hH]; exact va_S.rf
  rw [hH] at hP
  rw [hH]
  have hl := lv_entry ([.ref hx_, .int (iZ x), .int (iZ y), .int (iZ i), .int (bI dw)]) (n := 5) (Nat.le_of_ble_eq_true rfl)
  rw [lg_entry_eq]
  generalize (lg_sl ([.ref hx_, .int (iZ x), .int (iZ y), .int (iZ i), .int (bI dw)]) ++ List.replicate (5 - (lg_sl ([.ref hx_, .int (iZ x), .int (iZ y), .int (iZ i), .int (bI dw)])).length) Slot.unset).toArray = ls at hl ⊢
  have hl : lv_has ls 5 [(0, .ref hx_), (1, .int (iZ x)), (2, .int (iZ y)), (3, .int (iZ i)), (4, .int (bI dw))] := hl
  refine lv_iload_n hx hb d_D_run_0 rfl (lv_at hl 1 rfl) ?_
  refine vp_callSi (va_runS (As := [.int (iZ x)]) (rest := []) ⟨hx, hb, hml, hown, hts⟩ (c_DotSheet_isPlace l dC dI x (by first | omega | assumption) (by first | omega | assumption)) (va_cwS 1 hts (gS t_259 t_260 t_1 t_261) rfl rfl rfl (by decide +kernel) ⟨Nat.le_of_ble_eq_true rfl, Nat.le_of_ble_eq_true rfl⟩) ⟨zPr_blind, zPr_pre hP hK [] [] rfl rfl⟩ rfl rfl hl.1 rfl (lv_room (Nat.le_of_ble_eq_true rfl)) d_D_run_1 ⟨Nat.le_of_ble_eq_true rfl, Nat.le_of_ble_eq_true rfl⟩).run (fun r_1 q_1 => ?_)
  obtain rfl := q_1
  refine zb_if_eq (tgt := 18) hx hb d_D_run_4 (by decide) (fun c_4 => ?_) (fun c_4 => ?_)
  · have c_4 := of_decide_eq_false c_4
    refine lv_iconst (v := iZ (0)) hx hb d_D_run_18 rfl ?_
    refine zx_v (w1 := fun (u_19 : Unit) => []) (wr := [(hx_, .inr (4, [.ref hp, .ref hst, .ref hd, .ref hfa])), (hp, .inr (2, [.int (iZ w), .int (iZ h), .int (iZ mn), .ref hw, .ref hs, .ref hk])), (hw, .inl (cL, 16384, .inr (.inl (aL G))))]) (vx_runS (As := [.int (bI false)]) (rest := []) ⟨hx, hb, hml, hown, hts⟩ (c_DotSheet_demand l hnt dC dI sa false H.size ) (va_cwS 1 hts (gS t_154 t_155 t_1 t_156) rfl rfl rfl (by decide +kernel) ⟨Nat.le_of_ble_eq_true rfl, Nat.le_of_ble_eq_true rfl⟩) ⟨zPx_blind, zPx_pre hP hD hK hXK hS hA [] [] rfl rfl rfl rfl⟩ rfl rfl hl.1 rfl (lv_room (Nat.le_of_ble_eq_true rfl)) d_D_run_19 ⟨Nat.le_of_ble_eq_true rfl, Nat.le_of_ble_eq_true rfl⟩) hP hD hS hA [] [0, 1, 2] rfl rfl rfl (by decide) (fun E_ ce_ q9_ H locs x_19 hP hD hS hce hcv hcl => ?_) (fun u_19 H locs q_19 hP hD hS => ?_)
    · have hP : va_P (dC, dI) vwCl [(hx_, .inr (4, [.ref hp, .ref hst, .ref hd, .ref hfa])), (hp, .inr (2, [.int (iZ w), .int (iZ h), .int (iZ mn), .ref hw, .ref hs, .ref hk])), (hw, .inl (cL, 16384, .inr (.inl (aL G))))] H := hP
      have hD : va_D A [(hx_, .inr (4, [.ref hp, .ref hst, .ref hd, .ref hfa])), (hp, .inr (2, [.int (iZ w), .int (iZ h), .int (iZ mn), .ref hw, .ref hs, .ref hk])), (hw, .inl (cL, 16384, .inr (.inl (aL G))))] := hD
      exact vx_out (fun x9 h9 => (noEx x9 h9).elim) hlocks hce hcv hcl (fun t ht ha => ⟨(), trivial, ⟨Or.inl ⟨x_19.1, by omega⟩, by rw [ht]; exact hP, va_K.moved ha hK, hD⟩, hS.F ht⟩) hS.2.2 (Nat.le_of_ble_eq_true rfl) (Nat.le_of_ble_eq_true rfl)
    exact absurd q_19 (by decide)
  · have c_4 := of_decide_eq_true c_4
    refine lv_iload_n hx hb d_D_run_7 rfl (lv_at hl 2 rfl) ?_
    refine vp_callSi (va_runS (As := [.int (iZ y)]) (rest := []) ⟨hx, hb, hml, hown, hts⟩ (c_DotSheet_isPlace l dC dI y (by first | omega | assumption) (by first | omega | assumption)) (va_cwS 1 hts (gS t_259 t_260 t_1 t_261) rfl rfl rfl (by decide +kernel) ⟨Nat.le_of_ble_eq_true rfl, Nat.le_of_ble_eq_true rfl⟩) ⟨zPr_blind, zPr_pre hP hK [] [] rfl rfl⟩ rfl rfl hl.1 rfl (lv_room (Nat.le_of_ble_eq_true rfl)) d_D_run_8 ⟨Nat.le_of_ble_eq_true rfl, Nat.le_of_ble_eq_true rfl⟩).run (fun r_8 q_8 => ?_)
    obtain rfl := q_8
    refine zb_if_eq (tgt := 18) hx hb d_D_run_11 (by decide) (fun c_11 => ?_) (fun c_11 => ?_)
    · have c_11 := of_decide_eq_false c_11
      refine lv_iconst (v := iZ (0)) hx hb d_D_run_18 rfl ?_
      refine zx_v (w1 := fun (u_19 : Unit) => []) (wr := [(hx_, .inr (4, [.ref hp, .ref hst, .ref hd, .ref hfa])), (hp, .inr (2, [.int (iZ w), .int (iZ h), .int (iZ mn), .ref hw, .ref hs, .ref hk])), (hw, .inl (cL, 16384, .inr (.inl (aL G))))]) (vx_runS (As := [.int (bI false)]) (rest := []) ⟨hx, hb, hml, hown, hts⟩ (c_DotSheet_demand l hnt dC dI sa false H.size ) (va_cwS 1 hts (gS t_154 t_155 t_1 t_156) rfl rfl rfl (by decide +kernel) ⟨Nat.le_of_ble_eq_true rfl, Nat.le_of_ble_eq_true rfl⟩) ⟨zPx_blind, zPx_pre hP hD hK hXK hS hA [] [] rfl rfl rfl rfl⟩ rfl rfl hl.1 rfl (lv_room (Nat.le_of_ble_eq_true rfl)) d_D_run_19 ⟨Nat.le_of_ble_eq_true rfl, Nat.le_of_ble_eq_true rfl⟩) hP hD hS hA [] [0, 1, 2] rfl rfl rfl (by decide) (fun E_ ce_ q9_ H locs x_19 hP hD hS hce hcv hcl => ?_) (fun u_19 H locs q_19 hP hD hS => ?_)
      · have hP : va_P (dC, dI) vwCl [(hx_, .inr (4, [.ref hp, .ref hst, .ref hd, .ref hfa])), (hp, .inr (2, [.int (iZ w), .int (iZ h), .int (iZ mn), .ref hw, .ref hs, .ref hk])), (hw, .inl (cL, 16384, .inr (.inl (aL G))))] H := hP
        have hD : va_D A [(hx_, .inr (4, [.ref hp, .ref hst, .ref hd, .ref hfa])), (hp, .inr (2, [.int (iZ w), .int (iZ h), .int (iZ mn), .ref hw, .ref hs, .ref hk])), (hw, .inl (cL, 16384, .inr (.inl (aL G))))] := hD
        exact vx_out (fun x9 h9 => (noEx x9 h9).elim) hlocks hce hcv hcl (fun t ht ha => ⟨(), trivial, ⟨Or.inl ⟨x_19.1, by omega⟩, by rw [ht]; exact hP, va_K.moved ha hK, hD⟩, hS.F ht⟩) hS.2.2 (Nat.le_of_ble_eq_true rfl) (Nat.le_of_ble_eq_true rfl)
      exact absurd q_19 (by decide)
    · have c_11 := of_decide_eq_true c_11
      refine lv_iconst (v := iZ (1)) hx hb d_D_run_14 rfl ?_
      refine lv_goto (tgt := 19) hx hb d_D_run_15 (by decide) ?_
      refine zx_v (w1 := fun (u_19 : Unit) => []) (wr := [(hx_, .inr (4, [.ref hp, .ref hst, .ref hd, .ref hfa])), (hp, .inr (2, [.int (iZ w), .int (iZ h), .int (iZ mn), .ref hw, .ref hs, .ref hk])), (hw, .inl (cL, 16384, .inr (.inl (aL G))))]) (vx_runS (As := [.int (bI true)]) (rest := []) ⟨hx, hb, hml, hown, hts⟩ (c_DotSheet_demand l hnt dC dI sa true H.size ) (va_cwS 1 hts (gS t_154 t_155 t_1 t_156) rfl rfl rfl (by decide +kernel) ⟨Nat.le_of_ble_eq_true rfl, Nat.le_of_ble_eq_true rfl⟩) ⟨zPx_blind, zPx_pre hP hD hK hXK hS hA [] [] rfl rfl rfl rfl⟩ rfl rfl hl.1 rfl (lv_room (Nat.le_of_ble_eq_true rfl)) d_D_run_19 ⟨Nat.le_of_ble_eq_true rfl, Nat.le_of_ble_eq_true rfl⟩) hP hD hS hA [] [0, 1, 2] rfl rfl rfl (by decide) (fun E_ ce_ q9_ H locs x_19 hP hD hS hce hcv hcl => ?_) (fun u_19 H locs q_19 hP hD hS => ?_)
      · exact absurd x_19.2 (by decide)
      have hP : va_P (dC, dI) vwCl [(hx_, .inr (4, [.ref hp, .ref hst, .ref hd, .ref hfa])), (hp, .inr (2, [.int (iZ w), .int (iZ h), .int (iZ mn), .ref hw, .ref hs, .ref hk])), (hw, .inl (cL, 16384, .inr (.inl (aL G))))] H := hP
      have hD : va_D A [(hx_, .inr (4, [.ref hp, .ref hst, .ref hd, .ref hfa])), (hp, .inr (2, [.int (iZ w), .int (iZ h), .int (iZ mn), .ref hw, .ref hs, .ref hk])), (hw, .inl (cL, 16384, .inr (.inl (aL G))))] := hD
      refine lv_aload_n hx hb d_D_run_22 rfl (lv_at hl 0 rfl) ?_
      refine va_get (D := (dC, dI)) (ci := 4) (v := .ref hp) (C := R_D) (T := T_D) (N := 4) hx hb hts wi_D hown hK hP 0 rfl rfl 0 (by decide) (hts _ t_126) (fun _ h9 => h9) rfl d_D_run_23 ?_
      refine lv_iload_n hx hb d_D_run_26 rfl (lv_at hl 1 rfl) ?_
      refine lv_iload_n hx hb d_D_run_27 rfl (lv_at hl 2 rfl) ?_
      refine vp_callSi (va_runV (As := [.int (iZ x), .int (iZ y)]) (rest := []) ⟨hx, hb, hml, hown, hts⟩ (c_Paper_has l dC dI hp hw hs hk w h mn x y (by first | omega | assumption) (by first | omega | assumption) (by first | omega | assumption) (by first | omega | assumption) (by first | omega | assumption) (by first | omega | assumption) (by first | omega | assumption) (by first | omega | assumption)) (cwV 2 hts (gV t_662 t_652 t_653 t_2 t_654) rfl rfl rfl (by decide +kernel) ⟨Nat.le_of_ble_eq_true rfl, Nat.le_of_ble_eq_true rfl⟩) ⟨zPr_blind, va_recv hK hP (ci := 2) (q0 := 1) rfl rfl, zPr_pre hP hK [1] [] rfl rfl⟩ rfl rfl hl.1 rfl (lv_room (Nat.le_of_ble_eq_true rfl)) d_D_run_28 ⟨Nat.le_of_ble_eq_true rfl, Nat.le_of_ble_eq_true rfl⟩).run (fun r_28 q_28 => ?_)
      obtain rfl := q_28
      refine zb_if_ne (tgt := 44) hx hb d_D_run_31 (by decide) (fun c_31 => ?_) (fun c_31 => ?_)
      · have c_31 := of_decide_eq_true c_31
        refine lv_iload hx hb d_D_run_44 (lv_at hl 4 rfl) ?_
        refine zb_if_eq (tgt := 62) hx hb d_D_run_46 (by decide) (fun c_46 => ?_) (fun c_46 => ?_)
        · refine lv_aload_n hx hb d_D_run_62 rfl (lv_at hl 0 rfl) ?_
          refine va_get (D := (dC, dI)) (ci := 4) (v := .ref hp) (C := R_D) (T := T_D) (N := 4) hx hb hts wi_D hown hK hP 0 rfl rfl 0 (by decide) (hts _ t_126) (fun _ h9 => h9) rfl d_D_run_63 ?_
          refine lv_iload_n hx hb d_D_run_66 rfl (lv_at hl 1 rfl) ?_
          refine lv_iload_n hx hb d_D_run_67 rfl (lv_at hl 2 rfl) ?_
          refine lv_iload_n hx hb d_D_run_68 rfl (lv_at hl 3 rfl) ?_
          refine vp_callSi (va_runV (As := [.int (iZ x), .int (iZ y), .int (iZ i)]) (rest := []) ⟨hx, hb, hml, hown, hts⟩ (c_Paper_runRight l dC dI hp hw hs hk cL w h mn G pic x y i (by first | omega | assumption) (by first | omega | assumption) (by first | omega | assumption) (by first | omega | assumption) (by first | omega | assumption) (by first | omega | assumption) (by first | omega | assumption) (by first | omega | assumption) (by first | omega | assumption) (by first | omega | assumption) (by first | omega | assumption) (by first | omega | assumption)) (cwV 3 hts (gV t_673 t_674 t_675 t_2 t_676) rfl rfl rfl (by decide +kernel) ⟨Nat.le_of_ble_eq_true rfl, Nat.le_of_ble_eq_true rfl⟩) ⟨zPr_blind, va_recv hK hP (ci := 2) (q0 := 1) rfl rfl, zPr_pre hP hK [1, 2] [0] rfl rfl⟩ rfl rfl hl.1 rfl (lv_room (Nat.le_of_ble_eq_true rfl)) d_D_run_69 ⟨Nat.le_of_ble_eq_true rfl, Nat.le_of_ble_eq_true rfl⟩).run (fun r_69 q_69 => ?_)
          obtain rfl := q_69
          refine vx_ret ?_
          refine W.widen (k := 2) (n := 12) (Nat.le_of_ble_eq_true rfl) (Nat.le_of_ble_eq_true rfl) ?_
          exact W.iret hx hb hr (fun t ht hW => ⟨⟨_, (()), rfl, ⟨congrArg iZ (by rw [if_neg (by rw [c_46]; decide)]), by omega, decide_eq_true c_31⟩, by rw [ht]; exact hP, va_K.moved hW.alike hK, hD⟩, hS.F ht⟩) hS.2.2 d_D_run_72
        · refine lv_aload_n hx hb d_D_run_49 rfl (lv_at hl 0 rfl) ?_
          refine va_get (D := (dC, dI)) (ci := 4) (v := .ref hp) (C := R_D) (T := T_D) (N := 4) hx hb hts wi_D hown hK hP 0 rfl rfl 0 (by decide) (hts _ t_126) (fun _ h9 => h9) rfl d_D_run_50 ?_
          refine lv_iload_n hx hb d_D_run_53 rfl (lv_at hl 1 rfl) ?_
          refine lv_iload_n hx hb d_D_run_54 rfl (lv_at hl 2 rfl) ?_
          refine lv_iload_n hx hb d_D_run_55 rfl (lv_at hl 3 rfl) ?_
          refine vp_callSi (va_runV (As := [.int (iZ x), .int (iZ y), .int (iZ i)]) (rest := []) ⟨hx, hb, hml, hown, hts⟩ (c_Paper_runDown l dC dI hp hw hs hk cL w h mn G pic x y i (by first | omega | assumption) (by first | omega | assumption) (by first | omega | assumption) (by first | omega | assumption) (by first | omega | assumption) (by first | omega | assumption) (by first | omega | assumption) (by first | omega | assumption) (by first | omega | assumption) (by first | omega | assumption) (by first | omega | assumption) (by first | omega | assumption)) (cwV 3 hts (gV t_664 t_665 t_666 t_2 t_667) rfl rfl rfl (by decide +kernel) ⟨Nat.le_of_ble_eq_true rfl, Nat.le_of_ble_eq_true rfl⟩) ⟨zPr_blind, va_recv hK hP (ci := 2) (q0 := 1) rfl rfl, zPr_pre hP hK [1, 2] [0] rfl rfl⟩ rfl rfl hl.1 rfl (lv_room (Nat.le_of_ble_eq_true rfl)) d_D_run_56 ⟨Nat.le_of_ble_eq_true rfl, Nat.le_of_ble_eq_true rfl⟩).run (fun r_56 q_56 => ?_)
          obtain rfl := q_56
          refine lv_goto (tgt := 72) hx hb d_D_run_59 (by decide) ?_
          refine vx_ret ?_
          refine W.widen (k := 2) (n := 12) (Nat.le_of_ble_eq_true rfl) (Nat.le_of_ble_eq_true rfl) ?_
          exact W.iret hx hb hr (fun t ht hW => ⟨⟨_, (()), rfl, ⟨congrArg iZ (by rw [if_pos c_46]), by omega, decide_eq_true c_31⟩, by rw [ht]; exact hP, va_K.moved hW.alike hK, hD⟩, hS.F ht⟩) hS.2.2 d_D_run_72
      · have c_31 := of_decide_eq_false c_31
        exact vx_throwS (own := R_D) (cls := "java/lang/IndexOutOfBoundsException") (text := "the dot lies not on the sheet") (names := ["java/lang/RuntimeException", "java/lang/Exception"]) (A := A) hx hb hnt hown rfl (by decide +kernel) (hts _ t_440) (hts _ t_15) (hXK.2.1 5 _ rfl) (vx_hat (fun w9 h9 => hts w9 (xg_128 w9 h9)) xb_128 (fun w9 h9 => va_Nw.use (xb_ot w9 h9) (hXK.1 w9 h9))) xo_128 hXK.2.2.1 hXK.2.2.2 hS (hl.1.trans hml.symm) d_D_run_34 d_D_run_37 d_D_run_38 d_D_run_40 d_D_run_43 (fun x9 h9 => (noEx x9 h9).elim) (Nat.lt_of_lt_of_le (Nat.lt_succ_self _) (Nat.le_of_ble_eq_true rfl)) (Nat.le_of_ble_eq_true rfl) (Nat.le_of_ble_eq_true rfl) (Nat.le_of_ble_eq_true rfl) hlocks (fun t ha hz hk => ⟨(), trivial, ⟨Or.inr ⟨rfl, by omega, decide_eq_false c_31⟩, zX_P hP hk, va_K.moved ha hK, hD⟩, hS.trans hz hk⟩) hS.2.2 (Nat.le_of_ble_eq_true rfl) (Nat.le_of_ble_eq_true rfl)
theorem d_D_font_0 : decode c_yD_font 0 = .ok (.iload_n 1, 1) := by decide +kernel
theorem d_D_font_1 : decode c_yD_font 1 = .ok (.invokestatic 117, 3) := by decide +kernel
theorem d_D_font_4 : decode c_yD_font 4 = .ok (.ifCond .eq 27, 3) := by decide +kernel
theorem d_D_font_7 : decode c_yD_font 7 = .ok (.iload_n 2, 1) := by decide +kernel
theorem d_D_font_8 : decode c_yD_font 8 = .ok (.iconst 1, 1) := by decide +kernel
theorem d_D_font_9 : decode c_yD_font 9 = .ok (.bipush 32, 2) := by decide +kernel
theorem d_D_font_11 : decode c_yD_font 11 = .ok (.invokestatic 39, 3) := by decide +kernel
theorem d_D_font_14 : decode c_yD_font 14 = .ok (.ifCond .eq 17, 3) := by decide +kernel
theorem d_D_font_17 : decode c_yD_font 17 = .ok (.iload_n 3, 1) := by decide +kernel
theorem d_D_font_18 : decode c_yD_font 18 = .ok (.iconst 1, 1) := by decide +kernel
theorem d_D_font_19 : decode c_yD_font 19 = .ok (.bipush 32, 2) := by decide +kernel
theorem d_D_font_21 : decode c_yD_font 21 = .ok (.invokestatic 39, 3) := by decide +kernel
theorem d_D_font_24 : decode c_yD_font 24 = .ok (.ifCond .eq 7, 3) := by decide +kernel
theorem d_D_font_27 : decode c_yD_font 27 = .ok (.iconst 1, 1) := by decide +kernel
theorem d_D_font_28 : decode c_yD_font 28 = .ok (.goto 4, 3) := by decide +kernel
theorem d_D_font_31 : decode c_yD_font 31 = .ok (.iconst 0, 1) := by decide +kernel
theorem d_D_font_32 : decode c_yD_font 32 = .ok (.invokestatic 43, 3) := by decide +kernel
theorem d_D_font_35 : decode c_yD_font 35 = .ok (.iload 4, 2) := by decide +kernel
theorem d_D_font_37 : decode c_yD_font 37 = .ok (.iconst 0, 1) := by decide +kernel
theorem d_D_font_38 : decode c_yD_font 38 = .ok (.bipush 32, 2) := by decide +kernel
theorem d_D_font_40 : decode c_yD_font 40 = .ok (.invokestatic 39, 3) := by decide +kernel
theorem d_D_font_43 : decode c_yD_font 43 = .ok (.invokestatic 43, 3) := by decide +kernel
theorem d_D_font_46 : decode c_yD_font 46 = .ok (.aload_n 0, 1) := by decide +kernel
theorem d_D_font_47 : decode c_yD_font 47 = .ok (.getfield 34, 3) := by decide +kernel
theorem d_D_font_50 : decode c_yD_font 50 = .ok (.iload_n 1, 1) := by decide +kernel
theorem d_D_font_51 : decode c_yD_font 51 = .ok (.aaload, 1) := by decide +kernel
theorem d_D_font_52 : decode c_yD_font 52 = .ok (.iload_n 2, 1) := by decide +kernel
theorem d_D_font_53 : decode c_yD_font 53 = .ok (.iload_n 3, 1) := by decide +kernel
theorem d_D_font_54 : decode c_yD_font 54 = .ok (.iload 4, 2) := by decide +kernel
theorem d_D_font_56 : decode c_yD_font 56 = .ok (.invokevirtual 120, 3) := by decide +kernel
theorem d_D_font_59 : decode c_yD_font 59 = .ok (.return_, 1) := by decide +kernel
set_option maxHeartbeats 4000000 in
set_option maxRecDepth 100000 in
theorem c_DotSheet_font (l : Launch) (hnt : l.stackTraces = false) (dC : Nat → ClassId) (dI : Nat → Nat → Nat) (sa : Nat → Nat) (hx_ hp hst hd hfa : Nat) (cF : ClassId) (Fq : Int → Option Nat) (hf hrw : Nat) (cI : ClassId) (fw fh fg : Int) (X : Int → Int32) (f a b g : Int) (sz : Nat) (hq : 0 ≤ f ∧ f ≤ 3 → Fq f = some hf) (f1 : -2147483648 ≤ f) (a1 : -2147483648 ≤ a) (b1 : -2147483648 ≤ b) (g1 : -2147483648 ≤ g) (f2 : f ≤ 2147483647) (a2 : a ≤ 2147483647) (b2 : b ≤ 2147483647) (g2 : g ≤ 2147483647) : vx_Met l y_D_font w_D_font ({ frames := 7, cells := 2, slots := 12, locals := 120 }) (va_Pc [.ref hx_, .int (iZ f), .int (iZ a), .int (iZ b), .int (iZ g)] (zPx (dC, dI) vwCl [(hx_, .inr (4, [.ref hp, .ref hst, .ref hd, .ref hfa])), (hfa, .inl (cF, 4, .inr (.inr (.inr (.inr (aQ Fq)))))), (hf, .inr (1, [.int (iZ fw), .int (iZ fh), .int (iZ fg), .ref hrw])), (hrw, .inl (cI, 8192, .inl (aI X)))] [(cF, .object "DotSheet$Font"), (cI, .int)] sz sa)) (va_Qv (fun (u : Int → Int32) => (0 ≤ f ∧ f ≤ 3 ∧ 1 ≤ a ∧ a ≤ 32 ∧ 1 ≤ b ∧ b ≤ 32 ∧ 0 ≤ g ∧ g ≤ 32) ∧ ∀ i : Int, 0 ≤ i → i < 8192 → u i = iZ 0) (fun u => zB (dC, dI) vwCl [(cF, .object "DotSheet$Font"), (cI, .int)] (va_A [(hx_, .inr (4, [.ref hp, .ref hst, .ref hd, .ref hfa])), (hfa, .inl (cF, 4, .inr (.inr (.inr (.inr (aQ Fq)))))), (hf, .inr (1, [.int (iZ fw), .int (iZ fh), .int (iZ fg), .ref hrw])), (hrw, .inl (cI, 8192, .inl (aI X)))] sz) [(hx_, .inr (4, [.ref hp, .ref hst, .ref hd, .ref hfa])), (hfa, .inl (cF, 4, .inr (.inr (.inr (.inr (aQ Fq)))))), (hf, .inr (1, [.int (iZ a), .int (iZ b), .int (iZ g), .ref hrw])), (hrw, .inl (cI, 8192, .inl (aI u)))]) (va_A [(hx_, .inr (4, [.ref hp, .ref hst, .ref hd, .ref hfa])), (hfa, .inl (cF, 4, .inr (.inr (.inr (.inr (aQ Fq)))))), (hf, .inr (1, [.int (iZ fw), .int (iZ fh), .int (iZ fg), .ref hrw])), (hrw, .inl (cI, 8192, .inl (aI X)))] sz)) (zX (fun E => E = "java/lang/IllegalArgumentException" ∧ ¬ (0 ≤ f ∧ f ≤ 3 ∧ 1 ≤ a ∧ a ≤ 32 ∧ 1 ≤ b ∧ b ≤ 32 ∧ 0 ≤ g ∧ g ≤ 32)) (dC, dI) vwCl [(cF, .object "DotSheet$Font"), (cI, .int)] (va_A [(hx_, .inr (4, [.ref hp, .ref hst, .ref hd, .ref hfa])), (hfa, .inl (cF, 4, .inr (.inr (.inr (.inr (aQ Fq)))))), (hf, .inr (1, [.int (iZ fw), .int (iZ fh), .int (iZ fg), .ref hrw])), (hrw, .inl (cI, 8192, .inl (aI X)))] sz) [(hx_, .inr (4, [.ref hp, .ref hst, .ref hd, .ref hfa])), (hfa, .inl (cF, 4, .inr (.inr (.inr (.inr (aQ Fq)))))), (hf, .inr (1, [.int (iZ fw), .int (iZ fh), .int (iZ fg), .ref hrw])), (hrw, .inl (cI, 8192, .inl (aI X)))]) 2 12 (va_A [(hx_, .inr (4, [.ref hp, .ref hst, .ref hd, .ref hfa])), (hfa, .inl (cF, 4, .inr (.inr (.inr (.inr (aQ Fq)))))), (hf, .inr (1, [.int (iZ fw), .int (iZ fh), .int (iZ fg), .ref hrw])), (hrw, .inl (cI, 8192, .inl (aI X)))] sz) := by
  refine vx_ofW (cc := c_yD_font) (maxL := 5) (ret := none) (by decide) rfl ?_
  intro p e s m args below meth c s₁ B hml noEx hv
  obtain ⟨rfl, hsz, hP, hK, hD0, hXK⟩ := hv
  have hx := B.exec
  have hb := B.bytes
  have hr := B.returns
  have hts0 := atoms_spec (ws := w_D_font) B.pre
  have hts : ∀ w ∈ gT, w.before _ s = true := fun w h => hts0 w (List.mem_cons_of_mem _ h)
  have hown : s.vm.findClass R_D = some m.cls := findClass_of_methodNamed B.named
  have hlocks := B.notSynchronized
  subst hsz
  have hD := hD0.self (sz := s.heap.size)
  generalize hAe : va_A [(hx_, .inr (4, [.ref hp, .ref hst, .ref hd, .ref hfa])), (hfa, .inl (cF, 4, .inr (.inr (.inr (.inr (aQ Fq)))))), (hf, .inr (1, [.int (iZ fw), .int (iZ fh), .int (iZ fg), .ref hrw])), (hrw, .inl (cI, 8192, .inl (aI X)))] s.heap.size = A at hD hXK ⊢
  have hA : ∀ q : Nat, s.heap.size ≤ q → A q := fun q h => by rw [← hAe]; exact Or.inr h
  obtain ⟨H, hH⟩ : ∃ H, s.heap = H := ⟨_, rfl⟩
  have hS : va_S A s.heap H [] := by rw [← hH]; exact va_S.rf
  rw [hH] at hP
  rw [hH]
  have hl := lv_entry ([.ref hx_, .int (iZ f), .int (iZ a), .int (iZ b), .int (iZ g)]) (n := 5) (Nat.le_of_ble_eq_true rfl)
  rw [lg_entry_eq]
  generalize (lg_sl ([.ref hx_, .int (iZ f), .int (iZ a), .int (iZ b), .int (iZ g)]) ++ List.replicate (5 - (lg_sl ([.ref hx_, .int (iZ f), .int (iZ a), .int (iZ b), .int (iZ g)])).length) Slot.unset).toArray = ls at hl ⊢
  have hl : lv_has ls 5 [(0, .ref hx_), (1, .int (iZ f)), (2, .int (iZ a)), (3, .int (iZ b)), (4, .int (iZ g))] := hl
  refine lv_iload_n hx hb d_D_font_0 rfl (lv_at hl 1 rfl) ?_
  refine vp_callSi (va_runS (As := [.int (iZ f)]) (rest := []) ⟨hx, hb, hml, hown, hts⟩ (c_DotSheet_isFont l dC dI f (by first | omega | assumption) (by first | omega | assumption)) (va_cwS 1 hts (gS t_422 t_423 t_1 t_424) rfl rfl rfl (by decide +kernel) ⟨Nat.le_of_ble_eq_true rfl, Nat.le_of_ble_eq_true rfl⟩) ⟨zPr_blind, zPr_pre hP hK [] [] rfl rfl⟩ rfl rfl hl.1 rfl (lv_room (Nat.le_of_ble_eq_true rfl)) d_D_font_1 ⟨Nat.le_of_ble_eq_true rfl, Nat.le_of_ble_eq_true rfl⟩).run (fun r_1 q_1 => ?_)
  obtain rfl := q_1
  refine zb_if_eq (tgt := 31) hx hb d_D_font_4 (by decide) (fun c_4 => ?_) (fun c_4 => ?_)
  · have c_4 := of_decide_eq_false c_4
    refine lv_iconst (v := iZ (0)) hx hb d_D_font_31 rfl ?_
    refine zx_v (w1 := fun (u_32 : Unit) => []) (wr := [(hx_, .inr (4, [.ref hp, .ref hst, .ref hd, .ref hfa])), (hfa, .inl (cF, 4, .inr (.inr (.inr (.inr (aQ Fq)))))), (hf, .inr (1, [.int (iZ fw), .int (iZ fh), .int (iZ fg), .ref hrw])), (hrw, .inl (cI, 8192, .inl (aI X)))]) (vx_runS (As := [.int (bI false)]) (rest := []) ⟨hx, hb, hml, hown, hts⟩ (c_DotSheet_demand l hnt dC dI sa false H.size ) (va_cwS 1 hts (gS t_154 t_155 t_1 t_156) rfl rfl rfl (by decide +kernel) ⟨Nat.le_of_ble_eq_true rfl, Nat.le_of_ble_eq_true rfl⟩) ⟨zPx_blind, zPx_pre hP hD hK hXK hS hA [] [] rfl rfl rfl rfl⟩ rfl rfl hl.1 rfl (lv_room (Nat.le_of_ble_eq_true rfl)) d_D_font_32 ⟨Nat.le_of_ble_eq_true rfl, Nat.le_of_ble_eq_true rfl⟩) hP hD hS hA [] [0, 1, 2, 3] rfl rfl rfl (by decide) (fun E_ ce_ q9_ H locs x_32 hP hD hS hce hcv hcl => ?_) (fun u_32 H locs q_32 hP hD hS => ?_)
    · have hP : va_P (dC, dI) vwCl [(hx_, .inr (4, [.ref hp, .ref hst, .ref hd, .ref hfa])), (hfa, .inl (cF, 4, .inr (.inr (.inr (.inr (aQ Fq)))))), (hf, .inr (1, [.int (iZ fw), .int (iZ fh), .int (iZ fg), .ref hrw])), (hrw, .inl (cI, 8192, .inl (aI X)))] H := hP
      have hD : va_D A [(hx_, .inr (4, [.ref hp, .ref hst, .ref hd, .ref hfa])), (hfa, .inl (cF, 4, .inr (.inr (.inr (.inr (aQ Fq)))))), (hf, .inr (1, [.int (iZ fw), .int (iZ fh), .int (iZ fg), .ref hrw])), (hrw, .inl (cI, 8192, .inl (aI X)))] := hD
      exact vx_out (fun x9 h9 => (noEx x9 h9).elim) hlocks hce hcv hcl (fun t ht ha => ⟨(), trivial, ⟨⟨x_32.1, by omega⟩, by rw [ht]; exact hP, va_K.moved ha hK, hD⟩, hS.F ht⟩) hS.2.2 (Nat.le_of_ble_eq_true rfl) (Nat.le_of_ble_eq_true rfl)
    exact absurd q_32 (by decide)
  · have c_4 := of_decide_eq_true c_4
    refine lv_iload_n hx hb d_D_font_7 rfl (lv_at hl 2 rfl) ?_
    refine lv_iconst (v := iZ (1)) hx hb d_D_font_8 rfl ?_
    refine lv_bipush (v := iZ (32)) hx hb d_D_font_9 (by decide) ?_
    refine vp_callSi (va_runS (As := [.int (iZ a), .int (iZ 1), .int (iZ 32)]) (rest := []) ⟨hx, hb, hml, hown, hts⟩ (c_DotSheet_isWithin l dC dI a 1 32 (by first | omega | assumption) (by first | omega | assumption) (by first | omega | assumption) (by first | omega | assumption) (by first | omega | assumption) (by first | omega | assumption)) (va_cwS 3 hts (gS t_151 t_152 t_1 t_153) rfl rfl rfl (by decide +kernel) ⟨Nat.le_of_ble_eq_true rfl, Nat.le_of_ble_eq_true rfl⟩) ⟨zPr_blind, zPr_pre hP hK [] [] rfl rfl⟩ rfl rfl hl.1 rfl (lv_room (Nat.le_of_ble_eq_true rfl)) d_D_font_11 ⟨Nat.le_of_ble_eq_true rfl, Nat.le_of_ble_eq_true rfl⟩).run (fun r_11 q_11 => ?_)
    obtain rfl := q_11
    refine zb_if_eq (tgt := 31) hx hb d_D_font_14 (by decide) (fun c_14 => ?_) (fun c_14 => ?_)
    · have c_14 := of_decide_eq_false c_14
      refine lv_iconst (v := iZ (0)) hx hb d_D_font_31 rfl ?_
      refine zx_v (w1 := fun (u_32 : Unit) => []) (wr := [(hx_, .inr (4, [.ref hp, .ref hst, .ref hd, .ref hfa])), (hfa, .inl (cF, 4, .inr (.inr (.inr (.inr (aQ Fq)))))), (hf, .inr (1, [.int (iZ fw), .int (iZ fh), .int (iZ fg), .ref hrw])), (hrw, .inl (cI, 8192, .inl (aI X)))]) (vx_runS (As := [.int (bI false)]) (rest := []) ⟨hx, hb, hml, hown, hts⟩ (c_DotSheet_demand l hnt dC dI sa false H.size ) (va_cwS 1 hts (gS t_154 t_155 t_1 t_156) rfl rfl rfl (by decide +kernel) ⟨Nat.le_of_ble_eq_true rfl, Nat.le_of_ble_eq_true rfl⟩) ⟨zPx_blind, zPx_pre hP hD hK hXK hS hA [] [] rfl rfl rfl rfl⟩ rfl rfl hl.1 rfl (lv_room (Nat.le_of_ble_eq_true rfl)) d_D_font_32 ⟨Nat.le_of_ble_eq_true rfl, Nat.le_of_ble_eq_true rfl⟩) hP hD hS hA [] [0, 1, 2, 3] rfl rfl rfl (by decide) (fun E_ ce_ q9_ H locs x_32 hP hD hS hce hcv hcl => ?_) (fun u_32 H locs q_32 hP hD hS => ?_)
      · have hP : va_P (dC, dI) vwCl [(hx_, .inr (4, [.ref hp, .ref hst, .ref hd, .ref hfa])), (hfa, .inl (cF, 4, .inr (.inr (.inr (.inr (aQ Fq)))))), (hf, .inr (1, [.int (iZ fw), .int (iZ fh), .int (iZ fg), .ref hrw])), (hrw, .inl (cI, 8192, .inl (aI X)))] H := hP
        have hD : va_D A [(hx_, .inr (4, [.ref hp, .ref hst, .ref hd, .ref hfa])), (hfa, .inl (cF, 4, .inr (.inr (.inr (.inr (aQ Fq)))))), (hf, .inr (1, [.int (iZ fw), .int (iZ fh), .int (iZ fg), .ref hrw])), (hrw, .inl (cI, 8192, .inl (aI X)))] := hD
        exact vx_out (fun x9 h9 => (noEx x9 h9).elim) hlocks hce hcv hcl (fun t ht ha => ⟨(), trivial, ⟨⟨x_32.1, by omega⟩, by rw [ht]; exact hP, va_K.moved ha hK, hD⟩, hS.F ht⟩) hS.2.2 (Nat.le_of_ble_eq_true rfl) (Nat.le_of_ble_eq_true rfl)
      exact absurd q_32 (by decide)
    · have c_14 := of_decide_eq_true c_14
      refine lv_iload_n hx hb d_D_font_17 rfl (lv_at hl 3 rfl) ?_
      refine lv_iconst (v := iZ (1)) hx hb d_D_font_18 rfl ?_
      refine lv_bipush (v := iZ (32)) hx hb d_D_font_19 (by decide) ?_
      refine vp_callSi (va_runS (As := [.int (iZ b), .int (iZ 1), .int (iZ 32)]) (rest := []) ⟨hx, hb, hml, hown, hts⟩ (c_DotSheet_isWithin l dC dI b 1 32 (by first | omega | assumption) (by first | omega | assumption) (by first | omega | assumption) (by first | omega | assumption) (by first | omega | assumption) (by first | omega | assumption)) (va_cwS 3 hts (gS t_151 t_152 t_1 t_153) rfl rfl rfl (by decide +kernel) ⟨Nat.le_of_ble_eq_true rfl, Nat.le_of_ble_eq_true rfl⟩) ⟨zPr_blind, zPr_pre hP hK [] [] rfl rfl⟩ rfl rfl hl.1 rfl (lv_room (Nat.le_of_ble_eq_true rfl)) d_D_font_21 ⟨Nat.le_of_ble_eq_true rfl, Nat.le_of_ble_eq_true rfl⟩).run (fun r_21 q_21 => ?_)
      obtain rfl := q_21
      refine zb_if_eq (tgt := 31) hx hb d_D_font_24 (by decide) (fun c_24 => ?_) (fun c_24 => ?_)
      · have c_24 := of_decide_eq_false c_24
        refine lv_iconst (v := iZ (0)) hx hb d_D_font_31 rfl ?_
        refine zx_v (w1 := fun (u_32 : Unit) => []) (wr := [(hx_, .inr (4, [.ref hp, .ref hst, .ref hd, .ref hfa])), (hfa, .inl (cF, 4, .inr (.inr (.inr (.inr (aQ Fq)))))), (hf, .inr (1, [.int (iZ fw), .int (iZ fh), .int (iZ fg), .ref hrw])), (hrw, .inl (cI, 8192, .inl (aI X)))]) (vx_runS (As := [.int (bI false)]) (rest := []) ⟨hx, hb, hml, hown, hts⟩ (c_DotSheet_demand l hnt dC dI sa false H.size ) (va_cwS 1 hts (gS t_154 t_155 t_1 t_156) rfl rfl rfl (by decide +kernel) ⟨Nat.le_of_ble_eq_true rfl, Nat.le_of_ble_eq_true rfl⟩) ⟨zPx_blind, zPx_pre hP hD hK hXK hS hA [] [] rfl rfl rfl rfl⟩ rfl rfl hl.1 rfl (lv_room (Nat.le_of_ble_eq_true rfl)) d_D_font_32 ⟨Nat.le_of_ble_eq_true rfl, Nat.le_of_ble_eq_true rfl⟩) hP hD hS hA [] [0, 1, 2, 3] rfl rfl rfl (by decide) (fun E_ ce_ q9_ H locs x_32 hP hD hS hce hcv hcl => ?_) (fun u_32 H locs q_32 hP hD hS => ?_)
        · have hP : va_P (dC, dI) vwCl [(hx_, .inr (4, [.ref hp, .ref hst, .ref hd, .ref hfa])), (hfa, .inl (cF, 4, .inr (.inr (.inr (.inr (aQ Fq)))))), (hf, .inr (1, [.int (iZ fw), .int (iZ fh), .int (iZ fg), .ref hrw])), (hrw, .inl (cI, 8192, .inl (aI X)))] H := hP
          have hD : va_D A [(hx_, .inr (4, [.ref hp, .ref hst, .ref hd, .ref hfa])), (hfa, .inl (cF, 4, .inr (.inr (.inr (.inr (aQ Fq)))))), (hf, .inr (1, [.int (iZ fw), .int (iZ fh), .int (iZ fg), .ref hrw])), (hrw, .inl (cI, 8192, .inl (aI X)))] := hD
          exact vx_out (fun x9 h9 => (noEx x9 h9).elim) hlocks hce hcv hcl (fun t ht ha => ⟨(), trivial, ⟨⟨x_32.1, by omega⟩, by rw [ht]; exact hP, va_K.moved ha hK, hD⟩, hS.F ht⟩) hS.2.2 (Nat.le_of_ble_eq_true rfl) (Nat.le_of_ble_eq_true rfl)
        exact absurd q_32 (by decide)
      · have c_24 := of_decide_eq_true c_24
        refine lv_iconst (v := iZ (1)) hx hb d_D_font_27 rfl ?_
        refine lv_goto (tgt := 32) hx hb d_D_font_28 (by decide) ?_
        refine zx_v (w1 := fun (u_32 : Unit) => []) (wr := [(hx_, .inr (4, [.ref hp, .ref hst, .ref hd, .ref hfa])), (hfa, .inl (cF, 4, .inr (.inr (.inr (.inr (aQ Fq)))))), (hf, .inr (1, [.int (iZ fw), .int (iZ fh), .int (iZ fg), .ref hrw])), (hrw, .inl (cI, 8192, .inl (aI X)))]) (vx_runS (As := [.int (bI true)]) (rest := []) ⟨hx, hb, hml, hown, hts⟩ (c_DotSheet_demand l hnt dC dI sa true H.size ) (va_cwS 1 hts (gS t_154 t_155 t_1 t_156) rfl rfl rfl (by decide +kernel) ⟨Nat.le_of_ble_eq_true rfl, Nat.le_of_ble_eq_true rfl⟩) ⟨zPx_blind, zPx_pre hP hD hK hXK hS hA [] [] rfl rfl rfl rfl⟩ rfl rfl hl.1 rfl (lv_room (Nat.le_of_ble_eq_true rfl)) d_D_font_32 ⟨Nat.le_of_ble_eq_true rfl, Nat.le_of_ble_eq_true rfl⟩) hP hD hS hA [] [0, 1, 2, 3] rfl rfl rfl (by decide) (fun E_ ce_ q9_ H locs x_32 hP hD hS hce hcv hcl => ?_) (fun u_32 H locs q_32 hP hD hS => ?_)
        · exact absurd x_32.2 (by decide)
        have hP : va_P (dC, dI) vwCl [(hx_, .inr (4, [.ref hp, .ref hst, .ref hd, .ref hfa])), (hfa, .inl (cF, 4, .inr (.inr (.inr (.inr (aQ Fq)))))), (hf, .inr (1, [.int (iZ fw), .int (iZ fh), .int (iZ fg), .ref hrw])), (hrw, .inl (cI, 8192, .inl (aI X)))] H := hP
        have hD : va_D A [(hx_, .inr (4, [.ref hp, .ref hst, .ref hd, .ref hfa])), (hfa, .inl (cF, 4, .inr (.inr (.inr (.inr (aQ Fq)))))), (hf, .inr (1, [.int (iZ fw), .int (iZ fh), .int (iZ fg), .ref hrw])), (hrw, .inl (cI, 8192, .inl (aI X)))] := hD
        refine lv_iload hx hb d_D_font_35 (lv_at hl 4 rfl) ?_
        refine lv_iconst (v := iZ (0)) hx hb d_D_font_37 rfl ?_
        refine lv_bipush (v := iZ (32)) hx hb d_D_font_38 (by decide) ?_
        refine vp_callSi (va_runS (As := [.int (iZ g), .int (iZ 0), .int (iZ 32)]) (rest := []) ⟨hx, hb, hml, hown, hts⟩ (c_DotSheet_isWithin l dC dI g 0 32 (by first | omega | assumption) (by first | omega | assumption) (by first | omega | assumption) (by first | omega | assumption) (by first | omega | assumption) (by first | omega | assumption)) (va_cwS 3 hts (gS t_151 t_152 t_1 t_153) rfl rfl rfl (by decide +kernel) ⟨Nat.le_of_ble_eq_true rfl, Nat.le_of_ble_eq_true rfl⟩) ⟨zPr_blind, zPr_pre hP hK [] [] rfl rfl⟩ rfl rfl hl.1 rfl (lv_room (Nat.le_of_ble_eq_true rfl)) d_D_font_40 ⟨Nat.le_of_ble_eq_true rfl, Nat.le_of_ble_eq_true rfl⟩).run (fun r_40 q_40 => ?_)
        obtain rfl := q_40
        refine zx_v (w1 := fun (u_43 : Unit) => []) (wr := [(hx_, .inr (4, [.ref hp, .ref hst, .ref hd, .ref hfa])), (hfa, .inl (cF, 4, .inr (.inr (.inr (.inr (aQ Fq)))))), (hf, .inr (1, [.int (iZ fw), .int (iZ fh), .int (iZ fg), .ref hrw])), (hrw, .inl (cI, 8192, .inl (aI X)))]) (vx_runS (As := [.int (bI (decide (0 ≤ g ∧ g ≤ 32)))]) (rest := []) ⟨hx, hb, hml, hown, hts⟩ (c_DotSheet_demand l hnt dC dI sa (decide (0 ≤ g ∧ g ≤ 32)) H.size ) (va_cwS 1 hts (gS t_154 t_155 t_1 t_156) rfl rfl rfl (by decide +kernel) ⟨Nat.le_of_ble_eq_true rfl, Nat.le_of_ble_eq_true rfl⟩) ⟨zPx_blind, zPx_pre hP hD hK hXK hS hA [] [] rfl rfl rfl rfl⟩ rfl rfl hl.1 rfl (lv_room (Nat.le_of_ble_eq_true rfl)) d_D_font_43 ⟨Nat.le_of_ble_eq_true rfl, Nat.le_of_ble_eq_true rfl⟩) hP hD hS hA [] [0, 1, 2, 3] rfl rfl rfl (by decide) (fun E_ ce_ q9_ H locs x_43 hP hD hS hce hcv hcl => ?_) (fun u_43 H locs q_43 hP hD hS => ?_)
        · have hP : va_P (dC, dI) vwCl [(hx_, .inr (4, [.ref hp, .ref hst, .ref hd, .ref hfa])), (hfa, .inl (cF, 4, .inr (.inr (.inr (.inr (aQ Fq)))))), (hf, .inr (1, [.int (iZ fw), .int (iZ fh), .int (iZ fg), .ref hrw])), (hrw, .inl (cI, 8192, .inl (aI X)))] H := hP
          have hD : va_D A [(hx_, .inr (4, [.ref hp, .ref hst, .ref hd, .ref hfa])), (hfa, .inl (cF, 4, .inr (.inr (.inr (.inr (aQ Fq)))))), (hf, .inr (1, [.int (iZ fw), .int (iZ fh), .int (iZ fg), .ref hrw])), (hrw, .inl (cI, 8192, .inl (aI X)))] := hD
          exact vx_out (fun x9 h9 => (noEx x9 h9).elim) hlocks hce hcv hcl (fun t ht ha => ⟨(), trivial, ⟨⟨x_43.1, by have z9 := of_decide_eq_false x_43.2; omega⟩, by rw [ht]; exact hP, va_K.moved ha hK, hD⟩, hS.F ht⟩) hS.2.2 (Nat.le_of_ble_eq_true rfl) (Nat.le_of_ble_eq_true rfl)
        have hP : va_P (dC, dI) vwCl [(hx_, .inr (4, [.ref hp, .ref hst, .ref hd, .ref hfa])), (hfa, .inl (cF, 4, .inr (.inr (.inr (.inr (aQ Fq)))))), (hf, .inr (1, [.int (iZ fw), .int (iZ fh), .int (iZ fg), .ref hrw])), (hrw, .inl (cI, 8192, .inl (aI X)))] H := hP
        have hD : va_D A [(hx_, .inr (4, [.ref hp, .ref hst, .ref hd, .ref hfa])), (hfa, .inl (cF, 4, .inr (.inr (.inr (.inr (aQ Fq)))))), (hf, .inr (1, [.int (iZ fw), .int (iZ fh), .int (iZ fg), .ref hrw])), (hrw, .inl (cI, 8192, .inl (aI X)))] := hD
        have q_43 := of_decide_eq_true q_43
        refine lv_aload_n hx hb d_D_font_46 rfl (lv_at hl 0 rfl) ?_
        refine va_get (D := (dC, dI)) (ci := 4) (v := .ref hfa) (C := R_D) (T := T_D) (N := 4) hx hb hts wi_D hown hK hP 0 rfl rfl 3 (by decide) (hts _ t_129) (fun _ h9 => h9) rfl d_D_font_47 ?_
        refine lv_iload_n hx hb d_D_font_50 rfl (lv_at hl 1 rfl) ?_
        refine z_aldq hx hb hK hP 1 0 rfl rfl (by omega) (by omega) (by omega) (v := hf) (hq (by omega)) d_D_font_51 ?_
        refine lv_iload_n hx hb d_D_font_52 rfl (lv_at hl 2 rfl) ?_
        refine lv_iload_n hx hb d_D_font_53 rfl (lv_at hl 3 rfl) ?_
        refine lv_iload hx hb d_D_font_54 (lv_at hl 4 rfl) ?_
        refine zc_v (w1 := fun (u_56 : Int → Int32) => [(hf, .inr (1, [.int (iZ a), .int (iZ b), .int (iZ g), .ref hrw])), (hrw, .inl (cI, 8192, .inl (aI u_56)))]) (wr := [(hx_, .inr (4, [.ref hp, .ref hst, .ref hd, .ref hfa])), (hfa, .inl (cF, 4, .inr (.inr (.inr (.inr (aQ Fq))))))]) (va_runV (As := [.int (iZ a), .int (iZ b), .int (iZ g)]) (rest := []) ⟨hx, hb, hml, hown, hts⟩ (c_Font_renew l dC dI hf hrw cI fw fh fg X a b g H.size ) (cwV 3 hts (gV t_425 t_426 t_427 t_5 t_428) rfl rfl rfl (by decide +kernel) ⟨Nat.le_of_ble_eq_true rfl, Nat.le_of_ble_eq_true rfl⟩) ⟨zPm_blind, va_recv hK hP (ci := 1) (q0 := 2) rfl rfl, zPm_pre hP hD hK [2, 3] [1] rfl rfl rfl rfl⟩ rfl rfl hl.1 rfl (lv_room (Nat.le_of_ble_eq_true rfl)) d_D_font_56 ⟨Nat.le_of_ble_eq_true rfl, Nat.le_of_ble_eq_true rfl⟩) hP hD hS hA [2, 3] [0, 1] rfl rfl rfl (by decide) (fun u_56 H locs q_56 hP hD hS => ?_)
        have hP : va_P (dC, dI) vwCl [(hx_, .inr (4, [.ref hp, .ref hst, .ref hd, .ref hfa])), (hfa, .inl (cF, 4, .inr (.inr (.inr (.inr (aQ Fq)))))), (hf, .inr (1, [.int (iZ a), .int (iZ b), .int (iZ g), .ref hrw])), (hrw, .inl (cI, 8192, .inl (aI u_56)))] H := hP
        have hD : va_D A [(hx_, .inr (4, [.ref hp, .ref hst, .ref hd, .ref hfa])), (hfa, .inl (cF, 4, .inr (.inr (.inr (.inr (aQ Fq)))))), (hf, .inr (1, [.int (iZ a), .int (iZ b), .int (iZ g), .ref hrw])), (hrw, .inl (cI, 8192, .inl (aI u_56)))] := hD
        refine vx_ret ?_
        exact W.vret hx hb hr (fun t ht hW => ⟨⟨u_56, rfl, ⟨by omega, q_56⟩, by rw [ht]; exact hP, va_K.moved hW.alike hK, hD⟩, hS.F ht⟩) hS.2.2 d_D_font_59
theorem d_D_cell_0 : decode c_yD_cell 0 = .ok (.iload_n 1, 1) := by decide +kernel
theorem d_D_cell_1 : decode c_yD_cell 1 = .ok (.invokestatic 117, 3) := by decide +kernel
theorem d_D_cell_4 : decode c_yD_cell 4 = .ok (.ifCond .eq 18, 3) := by decide +kernel
theorem d_D_cell_7 : decode c_yD_cell 7 = .ok (.iload_n 2, 1) := by decide +kernel
theorem d_D_cell_8 : decode c_yD_cell 8 = .ok (.iconst 0, 1) := by decide +kernel
theorem d_D_cell_9 : decode c_yD_cell 9 = .ok (.sipush 255, 3) := by decide +kernel
theorem d_D_cell_12 : decode c_yD_cell 12 = .ok (.invokestatic 39, 3) := by decide +kernel
theorem d_D_cell_15 : decode c_yD_cell 15 = .ok (.ifCond .eq 7, 3) := by decide +kernel
theorem d_D_cell_18 : decode c_yD_cell 18 = .ok (.iconst 1, 1) := by decide +kernel
theorem d_D_cell_19 : decode c_yD_cell 19 = .ok (.goto 4, 3) := by decide +kernel
theorem d_D_cell_22 : decode c_yD_cell 22 = .ok (.iconst 0, 1) := by decide +kernel
theorem d_D_cell_23 : decode c_yD_cell 23 = .ok (.invokestatic 43, 3) := by decide +kernel
theorem d_D_cell_26 : decode c_yD_cell 26 = .ok (.iload_n 3, 1) := by decide +kernel
theorem d_D_cell_27 : decode c_yD_cell 27 = .ok (.iconst 0, 1) := by decide +kernel
theorem d_D_cell_28 : decode c_yD_cell 28 = .ok (.aload_n 0, 1) := by decide +kernel
theorem d_D_cell_29 : decode c_yD_cell 29 = .ok (.getfield 34, 3) := by decide +kernel
theorem d_D_cell_32 : decode c_yD_cell 32 = .ok (.iload_n 1, 1) := by decide +kernel
theorem d_D_cell_33 : decode c_yD_cell 33 = .ok (.aaload, 1) := by decide +kernel
theorem d_D_cell_34 : decode c_yD_cell 34 = .ok (.getfield 123, 3) := by decide +kernel
theorem d_D_cell_37 : decode c_yD_cell 37 = .ok (.iconst 1, 1) := by decide +kernel
theorem d_D_cell_38 : decode c_yD_cell 38 = .ok (.isub, 1) := by decide +kernel
theorem d_D_cell_39 : decode c_yD_cell 39 = .ok (.invokestatic 39, 3) := by decide +kernel
theorem d_D_cell_42 : decode c_yD_cell 42 = .ok (.ifCond .ne 13, 3) := by decide +kernel
theorem d_D_cell_45 : decode c_yD_cell 45 = .ok (.new 124, 3) := by decide +kernel
theorem d_D_cell_48 : decode c_yD_cell 48 = .ok (.dup, 1) := by decide +kernel
theorem d_D_cell_49 : decode c_yD_cell 49 = .ok (.ldc 126, 2) := by decide +kernel
theorem d_D_cell_51 : decode c_yD_cell 51 = .ok (.invokespecial 128, 3) := by decide +kernel
theorem d_D_cell_54 : decode c_yD_cell 54 = .ok (.athrow, 1) := by decide +kernel
theorem d_D_cell_55 : decode c_yD_cell 55 = .ok (.aload_n 0, 1) := by decide +kernel
theorem d_D_cell_56 : decode c_yD_cell 56 = .ok (.getfield 34, 3) := by decide +kernel
theorem d_D_cell_59 : decode c_yD_cell 59 = .ok (.iload_n 1, 1) := by decide +kernel
theorem d_D_cell_60 : decode c_yD_cell 60 = .ok (.aaload, 1) := by decide +kernel
theorem d_D_cell_61 : decode c_yD_cell 61 = .ok (.iload_n 2, 1) := by decide +kernel
theorem d_D_cell_62 : decode c_yD_cell 62 = .ok (.iload_n 3, 1) := by decide +kernel
theorem d_D_cell_63 : decode c_yD_cell 63 = .ok (.iload 4, 2) := by decide +kernel
theorem d_D_cell_65 : decode c_yD_cell 65 = .ok (.invokevirtual 131, 3) := by decide +kernel
theorem d_D_cell_68 : decode c_yD_cell 68 = .ok (.return_, 1) := by decide +kernel
set_option maxHeartbeats 4000000 in
set_option maxRecDepth 100000 in
theorem c_DotSheet_cell (l : Launch) (hnt : l.stackTraces = false) (dC : Nat → ClassId) (dI : Nat → Nat → Nat) (sa : Nat → Nat) (hx_ hp hst hd hfa : Nat) (cF : ClassId) (Fq : Int → Option Nat) (hf hrw : Nat) (cI : ClassId) (fw fh fg : Int) (X : Int → Int32) (f cd r0 : Int) (bits : Int32) (sz : Nat) (hq : 0 ≤ f ∧ f ≤ 3 → Fq f = some hf) (fh1 : 1 ≤ fh) (fh2 : fh ≤ 32) (f1 : -2147483648 ≤ f) (cd1 : -2147483648 ≤ cd) (r01 : -2147483648 ≤ r0) (f2 : f ≤ 2147483647) (cd2 : cd ≤ 2147483647) (r02 : r0 ≤ 2147483647) : vx_Met l y_D_cell w_D_cell ({ frames := 7, cells := 2, slots := 12, locals := 120 }) (va_Pc [.ref hx_, .int (iZ f), .int (iZ cd), .int (iZ r0), .int bits] (zPx (dC, dI) vwCl [(hx_, .inr (4, [.ref hp, .ref hst, .ref hd, .ref hfa])), (hfa, .inl (cF, 4, .inr (.inr (.inr (.inr (aQ Fq)))))), (hf, .inr (1, [.int (iZ fw), .int (iZ fh), .int (iZ fg), .ref hrw])), (hrw, .inl (cI, 8192, .inl (aI X)))] [(cF, .object "DotSheet$Font"), (cI, .int)] sz sa)) (va_Qv (fun (u : Int → Int32) => (0 ≤ f ∧ f ≤ 3 ∧ 0 ≤ cd ∧ cd ≤ 255) ∧ (0 ≤ r0 ∧ r0 ≤ fh - 1) ∧ u = upZ X (cd * 32 + r0) bits) (fun u => zB (dC, dI) vwCl [(cF, .object "DotSheet$Font"), (cI, .int)] (va_A [(hx_, .inr (4, [.ref hp, .ref hst, .ref hd, .ref hfa])), (hfa, .inl (cF, 4, .inr (.inr (.inr (.inr (aQ Fq)))))), (hf, .inr (1, [.int (iZ fw), .int (iZ fh), .int (iZ fg), .ref hrw])), (hrw, .inl (cI, 8192, .inl (aI X)))] sz) [(hx_, .inr (4, [.ref hp, .ref hst, .ref hd, .ref hfa])), (hfa, .inl (cF, 4, .inr (.inr (.inr (.inr (aQ Fq)))))), (hf, .inr (1, [.int (iZ fw), .int (iZ fh), .int (iZ fg), .ref hrw])), (hrw, .inl (cI, 8192, .inl (aI u)))]) (va_A [(hx_, .inr (4, [.ref hp, .ref hst, .ref hd, .ref hfa])), (hfa, .inl (cF, 4, .inr (.inr (.inr (.inr (aQ Fq)))))), (hf, .inr (1, [.int (iZ fw), .int (iZ fh), .int (iZ fg), .ref hrw])), (hrw, .inl (cI, 8192, .inl (aI X)))] sz)) (zX (fun E => (E = "java/lang/IllegalArgumentException" ∧ ¬ (0 ≤ f ∧ f ≤ 3 ∧ 0 ≤ cd ∧ cd ≤ 255)) ∨ (E = "java/lang/IndexOutOfBoundsException" ∧ (0 ≤ f ∧ f ≤ 3 ∧ 0 ≤ cd ∧ cd ≤ 255) ∧ ¬ (0 ≤ r0 ∧ r0 ≤ fh - 1))) (dC, dI) vwCl [(cF, .object "DotSheet$Font"), (cI, .int)] (va_A [(hx_, .inr (4, [.ref hp, .ref hst, .ref hd, .ref hfa])), (hfa, .inl (cF, 4, .inr (.inr (.inr (.inr (aQ Fq)))))), (hf, .inr (1, [.int (iZ fw), .int (iZ fh), .int (iZ fg), .ref hrw])), (hrw, .inl (cI, 8192, .inl (aI X)))] sz) [(hx_, .inr (4, [.ref hp, .ref hst, .ref hd, .ref hfa])), (hfa, .inl (cF, 4, .inr (.inr (.inr (.inr (aQ Fq)))))), (hf, .inr (1, [.int (iZ fw), .int (iZ fh), .int (iZ fg), .ref hrw])), (hrw, .inl (cI, 8192, .inl (aI X)))]) 2 12 (va_A [(hx_, .inr (4, [.ref hp, .ref hst, .ref hd, .ref hfa])), (hfa, .inl (cF, 4, .inr (.inr (.inr (.inr (aQ Fq)))))), (hf, .inr (1, [.int (iZ fw), .int (iZ fh), .int (iZ fg), .ref hrw])), (hrw, .inl (cI, 8192, .inl (aI X)))] sz) := by
  refine vx_ofW (cc := c_yD_cell) (maxL := 5) (ret := none) (by decide) rfl ?_
  intro p e s m args below meth c s₁ B hml noEx hv
  obtain ⟨rfl, hsz, hP, hK, hD0, hXK⟩ := hv
  have hx := B.exec
  have hb := B.bytes
  have hr := B.returns
  have hts0 := atoms_spec (ws := w_D_cell) B.pre
  have hts : ∀ w ∈ gT, w.before _ s = true := fun w h => hts0 w (List.mem_cons_of_mem _ h)
  have hown : s.vm.findClass R_D = some m.cls := findClass_of_methodNamed B.named
  have hlocks := B.notSynchronized
  subst hsz
  have hD := hD0.self (sz := s.heap.size)
  generalize hAe : va_A [(hx_, .inr (4, [.ref hp, .ref hst, .ref hd, .ref hfa])), (hfa, .inl (cF, 4, .inr (.inr (.inr (.inr (aQ Fq)))))), (hf, .inr (1, [.int (iZ fw), .int (iZ fh), .int (iZ fg), .ref hrw])), (hrw, .inl (cI, 8192, .inl (aI X)))] s.heap.size = A at hD hXK ⊢
  have hA : ∀ q : Nat, s.heap.size ≤ q → A q := fun q h => by rw [← hAe]; exact Or.inr h
  obtain ⟨H, hH⟩ : ∃ H, s.heap = H := ⟨_, rfl⟩
  have hS : va_S A s.heap H [] := by rw [← hH]; exact va_S.rf
  rw [hH] at hP
  rw [hH]
  have hl := lv_entry ([.ref hx_, .int (iZ f), .int (iZ cd), .int (iZ r0), .int bits]) (n := 5) (Nat.le_of_ble_eq_true rfl)
  rw [lg_entry_eq]
  generalize (lg_sl ([.ref hx_, .int (iZ f), .int (iZ cd), .int (iZ r0), .int bits]) ++ List.replicate (5 - (lg_sl ([.ref hx_, .int (iZ f), .int (iZ cd), .int (iZ r0), .int bits])).length) Slot.unset).toArray = ls at hl ⊢
  have hl : lv_has ls 5 [(0, .ref hx_), (1, .int (iZ f)), (2, .int (iZ cd)), (3, .int (iZ r0)), (4, .int bits)] := hl
  refine lv_iload_n hx hb d_D_cell_0 rfl (lv_at hl 1 rfl) ?_
  refine vp_callSi (va_runS (As := [.int (iZ f)]) (rest := []) ⟨hx, hb, hml, hown, hts⟩ (c_DotSheet_isFont l dC dI f (by first | omega | assumption) (by first | omega | assumption)) (va_cwS 1 hts (gS t_422 t_423 t_1 t_424) rfl rfl rfl (by decide +kernel) ⟨Nat.le_of_ble_eq_true rfl, Nat.le_of_ble_eq_true rfl⟩) ⟨zPr_blind, zPr_pre hP hK [] [] rfl rfl⟩ rfl rfl hl.1 rfl (lv_room (Nat.le_of_ble_eq_true rfl)) d_D_cell_1 ⟨Nat.le_of_ble_eq_true rfl, Nat.le_of_ble_eq_true rfl⟩).run (fun r_1 q_1 => ?_)
  obtain rfl := q_1
  refine zb_if_eq (tgt := 22) hx hb d_D_cell_4 (by decide) (fun c_4 => ?_) (fun c_4 => ?_)
  · have c_4 := of_decide_eq_false c_4
    refine lv_iconst (v := iZ (0)) hx hb d_D_cell_22 rfl ?_
    refine zx_v (w1 := fun (u_23 : Unit) => []) (wr := [(hx_, .inr (4, [.ref hp, .ref hst, .ref hd, .ref hfa])), (hfa, .inl (cF, 4, .inr (.inr (.inr (.inr (aQ Fq)))))), (hf, .inr (1, [.int (iZ fw), .int (iZ fh), .int (iZ fg), .ref hrw])), (hrw, .inl (cI, 8192, .inl (aI X)))]) (vx_runS (As := [.int (bI false)]) (rest := []) ⟨hx, hb, hml, hown, hts⟩ (c_DotSheet_demand l hnt dC dI sa false H.size ) (va_cwS 1 hts (gS t_154 t_155 t_1 t_156) rfl rfl rfl (by decide +kernel) ⟨Nat.le_of_ble_eq_true rfl, Nat.le_of_ble_eq_true rfl⟩) ⟨zPx_blind, zPx_pre hP hD hK hXK hS hA [] [] rfl rfl rfl rfl⟩ rfl rfl hl.1 rfl (lv_room (Nat.le_of_ble_eq_true rfl)) d_D_cell_23 ⟨Nat.le_of_ble_eq_true rfl, Nat.le_of_ble_eq_true rfl⟩) hP hD hS hA [] [0, 1, 2, 3] rfl rfl rfl (by decide) (fun E_ ce_ q9_ H locs x_23 hP hD hS hce hcv hcl => ?_) (fun u_23 H locs q_23 hP hD hS => ?_)
    · have hP : va_P (dC, dI) vwCl [(hx_, .inr (4, [.ref hp, .ref hst, .ref hd, .ref hfa])), (hfa, .inl (cF, 4, .inr (.inr (.inr (.inr (aQ Fq)))))), (hf, .inr (1, [.int (iZ fw), .int (iZ fh), .int (iZ fg), .ref hrw])), (hrw, .inl (cI, 8192, .inl (aI X)))] H := hP
      have hD : va_D A [(hx_, .inr (4, [.ref hp, .ref hst, .ref hd, .ref hfa])), (hfa, .inl (cF, 4, .inr (.inr (.inr (.inr (aQ Fq)))))), (hf, .inr (1, [.int (iZ fw), .int (iZ fh), .int (iZ fg), .ref hrw])), (hrw, .inl (cI, 8192, .inl (aI X)))] := hD
      exact vx_out (fun x9 h9 => (noEx x9 h9).elim) hlocks hce hcv hcl (fun t ht ha => ⟨(), trivial, ⟨Or.inl ⟨x_23.1, by omega⟩, by rw [ht]; exact hP, va_K.moved ha hK, hD⟩, hS.F ht⟩) hS.2.2 (Nat.le_of_ble_eq_true rfl) (Nat.le_of_ble_eq_true rfl)
    exact absurd q_23 (by decide)
  · have c_4 := of_decide_eq_true c_4
    refine lv_iload_n hx hb d_D_cell_7 rfl (lv_at hl 2 rfl) ?_
    refine lv_iconst (v := iZ (0)) hx hb d_D_cell_8 rfl ?_
    refine lv_sipush (v := iZ (255)) hx hb d_D_cell_9 (by decide) ?_
    refine vp_callSi (va_runS (As := [.int (iZ cd), .int (iZ 0), .int (iZ 255)]) (rest := []) ⟨hx, hb, hml, hown, hts⟩ (c_DotSheet_isWithin l dC dI cd 0 255 (by first | omega | assumption) (by first | omega | assumption) (by first | omega | assumption) (by first | omega | assumption) (by first | omega | assumption) (by first | omega | assumption)) (va_cwS 3 hts (gS t_151 t_152 t_1 t_153) rfl rfl rfl (by decide +kernel) ⟨Nat.le_of_ble_eq_true rfl, Nat.le_of_ble_eq_true rfl⟩) ⟨zPr_blind, zPr_pre hP hK [] [] rfl rfl⟩ rfl rfl hl.1 rfl (lv_room (Nat.le_of_ble_eq_true rfl)) d_D_cell_12 ⟨Nat.le_of_ble_eq_true rfl, Nat.le_of_ble_eq_true rfl⟩).run (fun r_12 q_12 => ?_)
    obtain rfl := q_12
    refine zb_if_eq (tgt := 22) hx hb d_D_cell_15 (by decide) (fun c_15 => ?_) (fun c_15 => ?_)
    · have c_15 := of_decide_eq_false c_15
      refine lv_iconst (v := iZ (0)) hx hb d_D_cell_22 rfl ?_
      refine zx_v (w1 := fun (u_23 : Unit) => []) (wr := [(hx_, .inr (4, [.ref hp, .ref hst, .ref hd, .ref hfa])), (hfa, .inl (cF, 4, .inr (.inr (.inr (.inr (aQ Fq)))))), (hf, .inr (1, [.int (iZ fw), .int (iZ fh), .int (iZ fg), .ref hrw])), (hrw, .inl (cI, 8192, .inl (aI X)))]) (vx_runS (As := [.int (bI false)]) (rest := []) ⟨hx, hb, hml, hown, hts⟩ (c_DotSheet_demand l hnt dC dI sa false H.size ) (va_cwS 1 hts (gS t_154 t_155 t_1 t_156) rfl rfl rfl (by decide +kernel) ⟨Nat.le_of_ble_eq_true rfl, Nat.le_of_ble_eq_true rfl⟩) ⟨zPx_blind, zPx_pre hP hD hK hXK hS hA [] [] rfl rfl rfl rfl⟩ rfl rfl hl.1 rfl (lv_room (Nat.le_of_ble_eq_true rfl)) d_D_cell_23 ⟨Nat.le_of_ble_eq_true rfl, Nat.le_of_ble_eq_true rfl⟩) hP hD hS hA [] [0, 1, 2, 3] rfl rfl rfl (by decide) (fun E_ ce_ q9_ H locs x_23 hP hD hS hce hcv hcl => ?_) (fun u_23 H locs q_23 hP hD hS => ?_)
      · have hP : va_P (dC, dI) vwCl [(hx_, .inr (4, [.ref hp, .ref hst, .ref hd, .ref hfa])), (hfa, .inl (cF, 4, .inr (.inr (.inr (.inr (aQ Fq)))))), (hf, .inr (1, [.int (iZ fw), .int (iZ fh), .int (iZ fg), .ref hrw])), (hrw, .inl (cI, 8192, .inl (aI X)))] H := hP
        have hD : va_D A [(hx_, .inr (4, [.ref hp, .ref hst, .ref hd, .ref hfa])), (hfa, .inl (cF, 4, .inr (.inr (.inr (.inr (aQ Fq)))))), (hf, .inr (1, [.int (iZ fw), .int (iZ fh), .int (iZ fg), .ref hrw])), (hrw, .inl (cI, 8192, .inl (aI X)))] := hD
        exact vx_out (fun x9 h9 => (noEx x9 h9).elim) hlocks hce hcv hcl (fun t ht ha => ⟨(), trivial, ⟨Or.inl ⟨x_23.1, by omega⟩, by rw [ht]; exact hP, va_K.moved ha hK, hD⟩, hS.F ht⟩) hS.2.2 (Nat.le_of_ble_eq_true rfl) (Nat.le_of_ble_eq_true rfl)
      exact absurd q_23 (by decide)
    · have c_15 := of_decide_eq_true c_15
      refine lv_iconst (v := iZ (1)) hx hb d_D_cell_18 rfl ?_
      refine lv_goto (tgt := 23) hx hb d_D_cell_19 (by decide) ?_
      refine zx_v (w1 := fun (u_23 : Unit) => []) (wr := [(hx_, .inr (4, [.ref hp, .ref hst, .ref hd, .ref hfa])), (hfa, .inl (cF, 4, .inr (.inr (.inr (.inr (aQ Fq)))))), (hf, .inr (1, [.int (iZ fw), .int (iZ fh), .int (iZ fg), .ref hrw])), (hrw, .inl (cI, 8192, .inl (aI X)))]) (vx_runS (As := [.int (bI true)]) (rest := []) ⟨hx, hb, hml, hown, hts⟩ (c_DotSheet_demand l hnt dC dI sa true H.size ) (va_cwS 1 hts (gS t_154 t_155 t_1 t_156) rfl rfl rfl (by decide +kernel) ⟨Nat.le_of_ble_eq_true rfl, Nat.le_of_ble_eq_true rfl⟩) ⟨zPx_blind, zPx_pre hP hD hK hXK hS hA [] [] rfl rfl rfl rfl⟩ rfl rfl hl.1 rfl (lv_room (Nat.le_of_ble_eq_true rfl)) d_D_cell_23 ⟨Nat.le_of_ble_eq_true rfl, Nat.le_of_ble_eq_true rfl⟩) hP hD hS hA [] [0, 1, 2, 3] rfl rfl rfl (by decide) (fun E_ ce_ q9_ H locs x_23 hP hD hS hce hcv hcl => ?_) (fun u_23 H locs q_23 hP hD hS => ?_)
      · exact absurd x_23.2 (by decide)
      have hP : va_P (dC, dI) vwCl [(hx_, .inr (4, [.ref hp, .ref hst, .ref hd, .ref hfa])), (hfa, .inl (cF, 4, .inr (.inr (.inr (.inr (aQ Fq)))))), (hf, .inr (1, [.int (iZ fw), .int (iZ fh), .int (iZ fg), .ref hrw])), (hrw, .inl (cI, 8192, .inl (aI X)))] H := hP
      have hD : va_D A [(hx_, .inr (4, [.ref hp, .ref hst, .ref hd, .ref hfa])), (hfa, .inl (cF, 4, .inr (.inr (.inr (.inr (aQ Fq)))))), (hf, .inr (1, [.int (iZ fw), .int (iZ fh), .int (iZ fg), .ref hrw])), (hrw, .inl (cI, 8192, .inl (aI X)))] := hD
      refine lv_iload_n hx hb d_D_cell_26 rfl (lv_at hl 3 rfl) ?_
      refine lv_iconst (v := iZ (0)) hx hb d_D_cell_27 rfl ?_
      refine lv_aload_n hx hb d_D_cell_28 rfl (lv_at hl 0 rfl) ?_
      refine va_get (D := (dC, dI)) (ci := 4) (v := .ref hfa) (C := R_D) (T := T_D) (N := 4) hx hb hts wi_D hown hK hP 0 rfl rfl 3 (by decide) (hts _ t_129) (fun _ h9 => h9) rfl d_D_cell_29 ?_
      refine lv_iload_n hx hb d_D_cell_32 rfl (lv_at hl 1 rfl) ?_
      refine z_aldq hx hb hK hP 1 0 rfl rfl (by omega) (by omega) (by omega) (v := hf) (hq (by omega)) d_D_cell_33 ?_
      refine va_get (D := (dC, dI)) (ci := 1) (v := .int (iZ fh)) (C := R_Fo) (T := T_Fo) (N := 4) hx hb hts wi_Fo hown hK hP 2 rfl rfl 1 (by decide) (hts _ t_112) (fun _ h9 => h9) rfl d_D_cell_34 ?_
      refine lv_iconst (v := iZ (1)) hx hb d_D_cell_37 rfl ?_
      refine zi_sub hx hb d_D_cell_38 ?_
      refine vp_callSi (va_runS (As := [.int (iZ r0), .int (iZ 0), .int (iZ (fh - 1))]) (rest := []) ⟨hx, hb, hml, hown, hts⟩ (c_DotSheet_isWithin l dC dI r0 0 (fh - 1) (by first | omega | assumption) (by first | omega | assumption) (by first | omega | assumption) (by first | omega | assumption) (by first | omega | assumption) (by first | omega | assumption)) (va_cwS 3 hts (gS t_151 t_152 t_1 t_153) rfl rfl rfl (by decide +kernel) ⟨Nat.le_of_ble_eq_true rfl, Nat.le_of_ble_eq_true rfl⟩) ⟨zPr_blind, zPr_pre hP hK [] [] rfl rfl⟩ rfl rfl hl.1 rfl (lv_room (Nat.le_of_ble_eq_true rfl)) d_D_cell_39 ⟨Nat.le_of_ble_eq_true rfl, Nat.le_of_ble_eq_true rfl⟩).run (fun r_39 q_39 => ?_)
      obtain rfl := q_39
      refine zb_if_ne (tgt := 55) hx hb d_D_cell_42 (by decide) (fun c_42 => ?_) (fun c_42 => ?_)
      · have c_42 := of_decide_eq_true c_42
        refine lv_aload_n hx hb d_D_cell_55 rfl (lv_at hl 0 rfl) ?_
        refine va_get (D := (dC, dI)) (ci := 4) (v := .ref hfa) (C := R_D) (T := T_D) (N := 4) hx hb hts wi_D hown hK hP 0 rfl rfl 3 (by decide) (hts _ t_129) (fun _ h9 => h9) rfl d_D_cell_56 ?_
        refine lv_iload_n hx hb d_D_cell_59 rfl (lv_at hl 1 rfl) ?_
        refine z_aldq hx hb hK hP 1 0 rfl rfl (by omega) (by omega) (by omega) (v := hf) (hq (by omega)) d_D_cell_60 ?_
        refine lv_iload_n hx hb d_D_cell_61 rfl (lv_at hl 2 rfl) ?_
        refine lv_iload_n hx hb d_D_cell_62 rfl (lv_at hl 3 rfl) ?_
        refine lv_iload hx hb d_D_cell_63 (lv_at hl 4 rfl) ?_
        refine zc_v (w1 := fun (u_65 : Int → Int32) => [(hf, .inr (1, [.int (iZ fw), .int (iZ fh), .int (iZ fg), .ref hrw])), (hrw, .inl (cI, 8192, .inl (aI u_65)))]) (wr := [(hx_, .inr (4, [.ref hp, .ref hst, .ref hd, .ref hfa])), (hfa, .inl (cF, 4, .inr (.inr (.inr (.inr (aQ Fq))))))]) (va_runV (As := [.int (iZ cd), .int (iZ r0), .int bits]) (rest := []) ⟨hx, hb, hml, hown, hts⟩ (c_Font_setRow l dC dI hf hrw cI fw fh fg X cd r0 bits H.size (by first | omega | assumption) (by first | omega | assumption) (by first | omega | assumption) (by first | omega | assumption)) (cwV 3 hts (gV t_456 t_457 t_458 t_5 t_459) rfl rfl rfl (by decide +kernel) ⟨Nat.le_of_ble_eq_true rfl, Nat.le_of_ble_eq_true rfl⟩) ⟨zPm_blind, va_recv hK hP (ci := 1) (q0 := 2) rfl rfl, zPm_pre hP hD hK [2, 3] [1] rfl rfl rfl rfl⟩ rfl rfl hl.1 rfl (lv_room (Nat.le_of_ble_eq_true rfl)) d_D_cell_65 ⟨Nat.le_of_ble_eq_true rfl, Nat.le_of_ble_eq_true rfl⟩) hP hD hS hA [2, 3] [0, 1] rfl rfl rfl (by decide) (fun u_65 H locs q_65 hP hD hS => ?_)
        have hP : va_P (dC, dI) vwCl [(hx_, .inr (4, [.ref hp, .ref hst, .ref hd, .ref hfa])), (hfa, .inl (cF, 4, .inr (.inr (.inr (.inr (aQ Fq)))))), (hf, .inr (1, [.int (iZ fw), .int (iZ fh), .int (iZ fg), .ref hrw])), (hrw, .inl (cI, 8192, .inl (aI u_65)))] H := hP
        have hD : va_D A [(hx_, .inr (4, [.ref hp, .ref hst, .ref hd, .ref hfa])), (hfa, .inl (cF, 4, .inr (.inr (.inr (.inr (aQ Fq)))))), (hf, .inr (1, [.int (iZ fw), .int (iZ fh), .int (iZ fg), .ref hrw])), (hrw, .inl (cI, 8192, .inl (aI u_65)))] := hD
        refine vx_ret ?_
        refine W.widen (k := 2) (n := 12) (Nat.le_of_ble_eq_true rfl) (Nat.le_of_ble_eq_true rfl) ?_
        exact W.vret hx hb hr (fun t ht hW => ⟨⟨u_65, rfl, ⟨by omega, by omega, q_65⟩, by rw [ht]; exact hP, va_K.moved hW.alike hK, hD⟩, hS.F ht⟩) hS.2.2 d_D_cell_68
      · have c_42 := of_decide_eq_false c_42
        exact vx_throwS (own := R_D) (cls := "java/lang/IndexOutOfBoundsException") (text := "the cells have no such row") (names := ["java/lang/RuntimeException", "java/lang/Exception"]) (A := A) hx hb hnt hown rfl (by decide +kernel) (hts _ t_440) (hts _ t_15) (hXK.2.1 1 _ rfl) (vx_hat (fun w9 h9 => hts w9 (xg_128 w9 h9)) xb_128 (fun w9 h9 => va_Nw.use (xb_ot w9 h9) (hXK.1 w9 h9))) xo_128 hXK.2.2.1 hXK.2.2.2 hS (hl.1.trans hml.symm) d_D_cell_45 d_D_cell_48 d_D_cell_49 d_D_cell_51 d_D_cell_54 (fun x9 h9 => (noEx x9 h9).elim) (Nat.lt_of_lt_of_le (Nat.lt_succ_self _) (Nat.le_of_ble_eq_true rfl)) (Nat.le_of_ble_eq_true rfl) (Nat.le_of_ble_eq_true rfl) (Nat.le_of_ble_eq_true rfl) hlocks (fun t ha hz hk => ⟨(), trivial, ⟨Or.inr ⟨rfl, by omega, by omega⟩, zX_P hP hk, va_K.moved ha hK, hD⟩, hS.trans hz hk⟩) hS.2.2 (Nat.le_of_ble_eq_true rfl) (Nat.le_of_ble_eq_true rfl)
