theorem d_Mo_frame_0 : decode c_yMo_frame 0 = .ok (.aload_n 0, 1) := by decide +kernel
theorem d_Mo_frame_1 : decode c_yMo_frame 1 = .ok (.iload_n 1, 1) := by decide +kernel
theorem d_Mo_frame_2 : decode c_yMo_frame 2 = .ok (.iload_n 2, 1) := by decide +kernel
theorem d_Mo_frame_3 : decode c_yMo_frame 3 = .ok (.invokestatic 124, 3) := by decide +kernel
theorem d_Mo_frame_6 : decode c_yMo_frame 6 = .ok (.ifCond .ne 14, 3) := by decide +kernel
theorem d_Mo_frame_9 : decode c_yMo_frame 9 = .ok (.iload_n 3, 1) := by decide +kernel
theorem d_Mo_frame_10 : decode c_yMo_frame 10 = .ok (.iload 4, 2) := by decide +kernel
theorem d_Mo_frame_12 : decode c_yMo_frame 12 = .ok (.iload 5, 2) := by decide +kernel
theorem d_Mo_frame_14 : decode c_yMo_frame 14 = .ok (.invokestatic 127, 3) := by decide +kernel
theorem d_Mo_frame_17 : decode c_yMo_frame 17 = .ok (.ifCond .eq 7, 3) := by decide +kernel
theorem d_Mo_frame_20 : decode c_yMo_frame 20 = .ok (.iconst 1, 1) := by decide +kernel
theorem d_Mo_frame_21 : decode c_yMo_frame 21 = .ok (.goto 4, 3) := by decide +kernel
theorem d_Mo_frame_24 : decode c_yMo_frame 24 = .ok (.iconst 0, 1) := by decide +kernel
theorem d_Mo_frame_25 : decode c_yMo_frame 25 = .ok (.putfield 37, 3) := by decide +kernel
theorem d_Mo_frame_28 : decode c_yMo_frame 28 = .ok (.aload_n 0, 1) := by decide +kernel
theorem d_Mo_frame_29 : decode c_yMo_frame 29 = .ok (.getfield 37, 3) := by decide +kernel
theorem d_Mo_frame_32 : decode c_yMo_frame 32 = .ok (.ifCond .le 5, 3) := by decide +kernel
theorem d_Mo_frame_35 : decode c_yMo_frame 35 = .ok (.iconst 0, 1) := by decide +kernel
theorem d_Mo_frame_36 : decode c_yMo_frame 36 = .ok (.ireturn, 1) := by decide +kernel
theorem d_Mo_frame_37 : decode c_yMo_frame 37 = .ok (.aload_n 0, 1) := by decide +kernel
theorem d_Mo_frame_38 : decode c_yMo_frame 38 = .ok (.iload_n 1, 1) := by decide +kernel
theorem d_Mo_frame_39 : decode c_yMo_frame 39 = .ok (.iload_n 2, 1) := by decide +kernel
theorem d_Mo_frame_40 : decode c_yMo_frame 40 = .ok (.iload_n 3, 1) := by decide +kernel
theorem d_Mo_frame_41 : decode c_yMo_frame 41 = .ok (.iload 4, 2) := by decide +kernel
theorem d_Mo_frame_43 : decode c_yMo_frame 43 = .ok (.iload 5, 2) := by decide +kernel
theorem d_Mo_frame_45 : decode c_yMo_frame 45 = .ok (.invokevirtual 130, 3) := by decide +kernel
theorem d_Mo_frame_48 : decode c_yMo_frame 48 = .ok (.aload_n 0, 1) := by decide +kernel
theorem d_Mo_frame_49 : decode c_yMo_frame 49 = .ok (.iconst 0, 1) := by decide +kernel
theorem d_Mo_frame_50 : decode c_yMo_frame 50 = .ok (.invokevirtual 134, 3) := by decide +kernel
theorem d_Mo_frame_53 : decode c_yMo_frame 53 = .ok (.ireturn, 1) := by decide +kernel
set_option maxHeartbeats 4000000 in
set_option maxRecDepth 100000 in
theorem c_Model_frame (l : Launch) (dC : Nat → ClassId) (dI : Nat → Nat → Nat) (hm zd zb zt zs zc zo : Nat) (tw w h mn n fx fy fa fb fc qr fo : Int) (cI cZ : ClassId) (Dt Sz Ce Co : Int → Int32) (dr : Int → Int) (Dk : Int → Int32) (pic : Int → Int → Bool) (x y bw bh t_ : Int) (sz : Nat) (w1 : 1 ≤ w) (w2 : w ≤ 1024) (h1 : 1 ≤ h) (h2 : h ≤ 1024) (mn1 : 0 ≤ mn) (mn2 : mn ≤ 2) (hM : RepM Dk pic) (hO : Off w h pic) (n1 : 0 ≤ n) (n2 : n ≤ 4096) (hT : RepT Dt n dr) (x1 : -2147483648 ≤ x) (y1 : -2147483648 ≤ y) (bw1 : -2147483648 ≤ bw) (bh1 : -2147483648 ≤ bh) (t_1 : -2147483648 ≤ t_) (x2 : x ≤ 2147483647) (y2 : y ≤ 2147483647) (bw2 : bw ≤ 2147483647) (bh2 : bh ≤ 2147483647) (t_2 : t_ ≤ 2147483647) : Met l y_Mo_frame w_Mo_frame ({ frames := 4, cells := 0, slots := 0, locals := 106 }) (va_Pc [.ref hm, .int (iZ x), .int (iZ y), .int (iZ bw), .int (iZ bh), .int (iZ t_)] (zPm (dC, dI) vwCl [(hm, .inr (6, [.int (iZ tw), .int (iZ w), .int (iZ h), .int (iZ mn), .ref zd, .ref zb, .ref zt, .int (iZ n), .ref zs, .ref zc, .int (iZ fx), .int (iZ fy), .int (iZ fa), .int (iZ fb), .int (iZ fc), .int (iZ qr), .int (iZ fo), .ref zo])), (zd, .inl (cI, 32768, .inl (aI Dk))), (zt, .inl (cI, 4096, .inl (aI Dt))), (zs, .inl (cI, 12, .inl (aI Sz))), (zc, .inl (cI, 32768, .inl (aI Ce))), (zo, .inl (cZ, 5200, .inl (aI Co)))] [(cI, .int), (cZ, .boolean)] sz)) (va_Qi (fun (r : Int32) (u : Int × (Int → Int32) × (Nat → Int)) => ∃ z : Int, r = iZ z ∧ (((-4096 ≤ x ∧ x ≤ 4096 ∧ -4096 ≤ y ∧ y ≤ 4096 ∧ 1 ≤ bw ∧ bw ≤ 2048 ∧ 1 ≤ bh ∧ bh ≤ 2048 ∧ 1 ≤ t_ ∧ t_ ≤ 200) ∧ u.1 = 0 ∧ z = cnt w h (frB x y bw bh t_) ∧ RepM u.2.1 (drw mn (fun px py => onB w h px py && frB x y bw bh t_ px py) pic)) ∨ (¬ (-4096 ≤ x ∧ x ≤ 4096 ∧ -4096 ≤ y ∧ y ≤ 4096 ∧ 1 ≤ bw ∧ bw ≤ 2048 ∧ 1 ≤ bh ∧ bh ≤ 2048 ∧ 1 ≤ t_ ∧ t_ ≤ 200) ∧ u.1 = 1 ∧ u.2.1 = Dk))) (fun u => zB (dC, dI) vwCl [(cI, .int), (cZ, .boolean)] (va_A [(hm, .inr (6, [.int (iZ tw), .int (iZ w), .int (iZ h), .int (iZ mn), .ref zd, .ref zb, .ref zt, .int (iZ n), .ref zs, .ref zc, .int (iZ fx), .int (iZ fy), .int (iZ fa), .int (iZ fb), .int (iZ fc), .int (iZ qr), .int (iZ fo), .ref zo])), (zd, .inl (cI, 32768, .inl (aI Dk))), (zt, .inl (cI, 4096, .inl (aI Dt))), (zs, .inl (cI, 12, .inl (aI Sz))), (zc, .inl (cI, 32768, .inl (aI Ce))), (zo, .inl (cZ, 5200, .inl (aI Co)))] sz) [(hm, .inr (6, [.int (iZ u.1), .int (iZ w), .int (iZ h), .int (iZ mn), .ref zd, .ref zb, .ref zt, .int (iZ n), .ref zs, .ref zc, .int (iZ ((u.2.2 0))), .int (iZ ((u.2.2 1))), .int (iZ ((u.2.2 2))), .int (iZ ((u.2.2 3))), .int (iZ ((u.2.2 4))), .int (iZ ((u.2.2 5))), .int (iZ ((u.2.2 6))), .ref zo])), (zd, .inl (cI, 32768, .inl (aI u.2.1))), (zt, .inl (cI, 4096, .inl (aI Dt))), (zs, .inl (cI, 12, .inl (aI Sz))), (zc, .inl (cI, 32768, .inl (aI Ce))), (zo, .inl (cZ, 5200, .inl (aI Co)))]) (va_A [(hm, .inr (6, [.int (iZ tw), .int (iZ w), .int (iZ h), .int (iZ mn), .ref zd, .ref zb, .ref zt, .int (iZ n), .ref zs, .ref zc, .int (iZ fx), .int (iZ fy), .int (iZ fa), .int (iZ fb), .int (iZ fc), .int (iZ qr), .int (iZ fo), .ref zo])), (zd, .inl (cI, 32768, .inl (aI Dk))), (zt, .inl (cI, 4096, .inl (aI Dt))), (zs, .inl (cI, 12, .inl (aI Sz))), (zc, .inl (cI, 32768, .inl (aI Ce))), (zo, .inl (cZ, 5200, .inl (aI Co)))] sz)) 0 0 (va_A [(hm, .inr (6, [.int (iZ tw), .int (iZ w), .int (iZ h), .int (iZ mn), .ref zd, .ref zb, .ref zt, .int (iZ n), .ref zs, .ref zc, .int (iZ fx), .int (iZ fy), .int (iZ fa), .int (iZ fb), .int (iZ fc), .int (iZ qr), .int (iZ fo), .ref zo])), (zd, .inl (cI, 32768, .inl (aI Dk))), (zt, .inl (cI, 4096, .inl (aI Dt))), (zs, .inl (cI, 12, .inl (aI Sz))), (zc, .inl (cI, 32768, .inl (aI Ce))), (zo, .inl (cZ, 5200, .inl (aI Co)))] sz) := by
  refine Met.ofW (cc := c_yMo_frame) (maxL := 6) (ret := (some .int)) (by decide) rfl ?_
  intro p e s m args below meth c s₁ B hml hv
  obtain ⟨rfl, hsz, hP, hK, hD0⟩ := hv
  have hx := B.exec
  have hb := B.bytes
  have hr := B.returns
  have hts0 := atoms_spec (ws := w_Mo_frame) B.pre
  have hts : ∀ w ∈ gT, w.before _ s = true := fun w h => hts0 w (List.mem_cons_of_mem _ h)
  have hown : s.vm.findClass R_Mo = some m.cls := findClass_of_methodNamed B.named
  have hlocks := B.notSynchronized
  subst hsz
  have hD := hD0.self (sz := s.heap.size)
  generalize hAe : va_A [(hm, .inr (6, [.int (iZ tw), .int (iZ w), .int (iZ h), .int (iZ mn), .ref zd, .ref zb, .ref zt, .int (iZ n), .ref zs, .ref zc, .int (iZ fx), .int (iZ fy), .int (iZ fa), .int (iZ fb), .int (iZ fc), .int (iZ qr), .int (iZ fo), .ref zo])), (zd, .inl (cI, 32768, .inl (aI Dk))), (zt, .inl (cI, 4096, .inl (aI Dt))), (zs, .inl (cI, 12, .inl (aI Sz))), (zc, .inl (cI, 32768, .inl (aI Ce))), (zo, .inl (cZ, 5200, .inl (aI Co)))] s.heap.size = A at hD ⊢
  have hA : ∀ q : Nat, s.heap.size ≤ q → A q := fun q h => by rw [← hAe]; exact Or.inr h
  obtain ⟨H, hH⟩ : ∃ H, s.heap = H := ⟨_, rfl⟩
  have hS : va_S A s.heap H [] := by rw [← hH]; exact va_S.rf
  rw [hH] at hP
  rw [hH]
  have hl := lv_entry ([.ref hm, .int (iZ x), .int (iZ y), .int (iZ bw), .int (iZ bh), .int (iZ t_)]) (n := 6) (Nat.le_of_ble_eq_true rfl)
  rw [lg_entry_eq]
  generalize (lg_sl ([.ref hm, .int (iZ x), .int (iZ y), .int (iZ bw), .int (iZ bh), .int (iZ t_)]) ++ List.replicate (6 - (lg_sl ([.ref hm, .int (iZ x), .int (iZ y), .int (iZ bw), .int (iZ bh), .int (iZ t_)])).length) Slot.unset).toArray = ls at hl ⊢
  have hl : lv_has ls 6 [(0, .ref hm), (1, .int (iZ x)), (2, .int (iZ y)), (3, .int (iZ bw)), (4, .int (iZ bh)), (5, .int (iZ t_))] := hl
  refine lv_aload_n hx hb d_Mo_frame_0 rfl (lv_at hl 0 rfl) ?_
  refine lv_iload_n hx hb d_Mo_frame_1 rfl (lv_at hl 1 rfl) ?_
  refine lv_iload_n hx hb d_Mo_frame_2 rfl (lv_at hl 2 rfl) ?_
  refine vp_callSi (va_runS (As := [.int (iZ x), .int (iZ y)]) (rest := [.ref hm]) ⟨hx, hb, hml, hown, hts⟩ (c_Model_noPlace l dC dI x y (by first | omega | assumption) (by first | omega | assumption) (by first | omega | assumption) (by first | omega | assumption)) (va_cwS 2 hts (gS t_765 t_766 t_6 t_767) rfl rfl rfl (by decide +kernel) ⟨Nat.le_of_ble_eq_true rfl, Nat.le_of_ble_eq_true rfl⟩) ⟨zPr_blind, zPr_pre hP hK [] [] rfl rfl⟩ rfl rfl hl.1 rfl (lv_room (Nat.le_of_ble_eq_true rfl)) d_Mo_frame_3 ⟨Nat.le_of_ble_eq_true rfl, Nat.le_of_ble_eq_true rfl⟩).run (fun r_3 q_3 => ?_)
  obtain rfl := q_3
  refine zb_if_ne (tgt := 20) hx hb d_Mo_frame_6 (by decide) (fun c_6 => ?_) (fun c_6 => ?_)
  · have c_6 := of_decide_eq_true c_6
    refine lv_iconst (v := iZ (1)) hx hb d_Mo_frame_20 rfl ?_
    refine lv_goto (tgt := 25) hx hb d_Mo_frame_21 (by decide) ?_
    refine va_put (D := (dC, dI)) (ci := 6) (v := .int (iZ 1)) (ty := .int) (C := R_Mo) (T := T_Mo) (N := 18) hx hb hts wi_Mo ty_Mo ty_Mo_ok nd_Mo hown hK hP hD hS 0 rfl rfl 0 (by decide) (hts _ t_684) (fun _ h9 => h9) rfl (by decide +kernel) rfl rfl (Nat.le_of_ble_eq_true rfl) d_Mo_frame_25 (fun H locs hP hD hS => ?_)
    have hP : va_P (dC, dI) vwCl [(hm, .inr (6, [.int (iZ 1), .int (iZ w), .int (iZ h), .int (iZ mn), .ref zd, .ref zb, .ref zt, .int (iZ n), .ref zs, .ref zc, .int (iZ fx), .int (iZ fy), .int (iZ fa), .int (iZ fb), .int (iZ fc), .int (iZ qr), .int (iZ fo), .ref zo])), (zd, .inl (cI, 32768, .inl (aI Dk))), (zt, .inl (cI, 4096, .inl (aI Dt))), (zs, .inl (cI, 12, .inl (aI Sz))), (zc, .inl (cI, 32768, .inl (aI Ce))), (zo, .inl (cZ, 5200, .inl (aI Co)))] H := hP
    have hD : va_D A [(hm, .inr (6, [.int (iZ 1), .int (iZ w), .int (iZ h), .int (iZ mn), .ref zd, .ref zb, .ref zt, .int (iZ n), .ref zs, .ref zc, .int (iZ fx), .int (iZ fy), .int (iZ fa), .int (iZ fb), .int (iZ fc), .int (iZ qr), .int (iZ fo), .ref zo])), (zd, .inl (cI, 32768, .inl (aI Dk))), (zt, .inl (cI, 4096, .inl (aI Dt))), (zs, .inl (cI, 12, .inl (aI Sz))), (zc, .inl (cI, 32768, .inl (aI Ce))), (zo, .inl (cZ, 5200, .inl (aI Co)))] := hD
    refine lv_aload_n hx hb d_Mo_frame_28 rfl (lv_at hl 0 rfl) ?_
    refine va_get (D := (dC, dI)) (ci := 6) (v := .int (iZ 1)) (C := R_Mo) (T := T_Mo) (N := 18) hx hb hts wi_Mo hown hK hP 0 rfl rfl 0 (by decide) (hts _ t_684) (fun _ h9 => h9) rfl d_Mo_frame_29 ?_
    refine zi_if_le (tgt := 37) hx hb d_Mo_frame_32 (by decide) (by omega) (by omega) (fun c_32 => ?_) (fun c_32 => ?_)
    · exact absurd c_32 (by omega)
    · refine lv_iconst (v := iZ (0)) hx hb d_Mo_frame_35 rfl ?_
      exact W.iret hx hb hr (fun t ht hW => ⟨⟨_, ((1, Dk, fun k9 => [fx, fy, fa, fb, fc, qr, fo].getD k9 0)), rfl, ⟨_, rfl, Or.inr ⟨by omega, rfl, rfl⟩⟩, by rw [ht]; exact hP, va_K.moved hW.alike hK, hD⟩, hS.F ht⟩) hS.2.2 d_Mo_frame_36
  · have c_6 := of_decide_eq_false c_6
    refine lv_iload_n hx hb d_Mo_frame_9 rfl (lv_at hl 3 rfl) ?_
    refine lv_iload hx hb d_Mo_frame_10 (lv_at hl 4 rfl) ?_
    refine lv_iload hx hb d_Mo_frame_12 (lv_at hl 5 rfl) ?_
    refine vp_callSi (va_runS (As := [.int (iZ bw), .int (iZ bh), .int (iZ t_)]) (rest := [.ref hm]) ⟨hx, hb, hml, hown, hts⟩ (c_Model_noRing l dC dI bw bh t_ (by first | omega | assumption) (by first | omega | assumption) (by first | omega | assumption) (by first | omega | assumption) (by first | omega | assumption) (by first | omega | assumption)) (va_cwS 3 hts (gS t_768 t_769 t_6 t_770) rfl rfl rfl (by decide +kernel) ⟨Nat.le_of_ble_eq_true rfl, Nat.le_of_ble_eq_true rfl⟩) ⟨zPr_blind, zPr_pre hP hK [] [] rfl rfl⟩ rfl rfl hl.1 rfl (lv_room (Nat.le_of_ble_eq_true rfl)) d_Mo_frame_14 ⟨Nat.le_of_ble_eq_true rfl, Nat.le_of_ble_eq_true rfl⟩).run (fun r_14 q_14 => ?_)
    obtain rfl := q_14
    refine zb_if_eq (tgt := 24) hx hb d_Mo_frame_17 (by decide) (fun c_17 => ?_) (fun c_17 => ?_)
    · have c_17 := of_decide_eq_false c_17
      refine lv_iconst (v := iZ (0)) hx hb d_Mo_frame_24 rfl ?_
      refine va_put (D := (dC, dI)) (ci := 6) (v := .int (iZ 0)) (ty := .int) (C := R_Mo) (T := T_Mo) (N := 18) hx hb hts wi_Mo ty_Mo ty_Mo_ok nd_Mo hown hK hP hD hS 0 rfl rfl 0 (by decide) (hts _ t_684) (fun _ h9 => h9) rfl (by decide +kernel) rfl rfl (Nat.le_of_ble_eq_true rfl) d_Mo_frame_25 (fun H locs hP hD hS => ?_)
      have hP : va_P (dC, dI) vwCl [(hm, .inr (6, [.int (iZ 0), .int (iZ w), .int (iZ h), .int (iZ mn), .ref zd, .ref zb, .ref zt, .int (iZ n), .ref zs, .ref zc, .int (iZ fx), .int (iZ fy), .int (iZ fa), .int (iZ fb), .int (iZ fc), .int (iZ qr), .int (iZ fo), .ref zo])), (zd, .inl (cI, 32768, .inl (aI Dk))), (zt, .inl (cI, 4096, .inl (aI Dt))), (zs, .inl (cI, 12, .inl (aI Sz))), (zc, .inl (cI, 32768, .inl (aI Ce))), (zo, .inl (cZ, 5200, .inl (aI Co)))] H := hP
      have hD : va_D A [(hm, .inr (6, [.int (iZ 0), .int (iZ w), .int (iZ h), .int (iZ mn), .ref zd, .ref zb, .ref zt, .int (iZ n), .ref zs, .ref zc, .int (iZ fx), .int (iZ fy), .int (iZ fa), .int (iZ fb), .int (iZ fc), .int (iZ qr), .int (iZ fo), .ref zo])), (zd, .inl (cI, 32768, .inl (aI Dk))), (zt, .inl (cI, 4096, .inl (aI Dt))), (zs, .inl (cI, 12, .inl (aI Sz))), (zc, .inl (cI, 32768, .inl (aI Ce))), (zo, .inl (cZ, 5200, .inl (aI Co)))] := hD
      refine lv_aload_n hx hb d_Mo_frame_28 rfl (lv_at hl 0 rfl) ?_
      refine va_get (D := (dC, dI)) (ci := 6) (v := .int (iZ 0)) (C := R_Mo) (T := T_Mo) (N := 18) hx hb hts wi_Mo hown hK hP 0 rfl rfl 0 (by decide) (hts _ t_684) (fun _ h9 => h9) rfl d_Mo_frame_29 ?_
      refine zi_if_le (tgt := 37) hx hb d_Mo_frame_32 (by decide) (by omega) (by omega) (fun c_32 => ?_) (fun c_32 => ?_)
      · refine lv_aload_n hx hb d_Mo_frame_37 rfl (lv_at hl 0 rfl) ?_
        refine lv_iload_n hx hb d_Mo_frame_38 rfl (lv_at hl 1 rfl) ?_
        refine lv_iload_n hx hb d_Mo_frame_39 rfl (lv_at hl 2 rfl) ?_
        refine lv_iload_n hx hb d_Mo_frame_40 rfl (lv_at hl 3 rfl) ?_
        refine lv_iload hx hb d_Mo_frame_41 (lv_at hl 4 rfl) ?_
        refine lv_iload hx hb d_Mo_frame_43 (lv_at hl 5 rfl) ?_
        refine zc_v (w1 := fun (u_45 : Unit) => [(hm, .inr (6, [.int (iZ 0), .int (iZ w), .int (iZ h), .int (iZ mn), .ref zd, .ref zb, .ref zt, .int (iZ n), .ref zs, .ref zc, .int (iZ x), .int (iZ y), .int (iZ bw), .int (iZ bh), .int (iZ t_), .int (iZ qr), .int (iZ fo), .ref zo]))]) (wr := [(zd, .inl (cI, 32768, .inl (aI Dk))), (zt, .inl (cI, 4096, .inl (aI Dt))), (zs, .inl (cI, 12, .inl (aI Sz))), (zc, .inl (cI, 32768, .inl (aI Ce))), (zo, .inl (cZ, 5200, .inl (aI Co)))]) (va_runV (As := [.int (iZ x), .int (iZ y), .int (iZ bw), .int (iZ bh), .int (iZ t_)]) (rest := []) ⟨hx, hb, hml, hown, hts⟩ (c_Model_at l dC dI hm zd zb zt zs zc zo 0 w h mn n fx fy fa fb fc qr fo x y bw bh t_ H.size ) (cwV 5 hts (gV t_774 t_776 s_15 t_6 t_777) rfl rfl rfl (by decide +kernel) ⟨Nat.le_of_ble_eq_true rfl, Nat.le_of_ble_eq_true rfl⟩) ⟨zPm_blind, va_recv hK hP (ci := 6) (q0 := 0) rfl rfl, zPm_pre hP hD hK [0] [] rfl rfl rfl rfl⟩ rfl rfl hl.1 rfl (lv_room (Nat.le_of_ble_eq_true rfl)) d_Mo_frame_45 ⟨Nat.le_of_ble_eq_true rfl, Nat.le_of_ble_eq_true rfl⟩) hP hD hS hA [0] [1, 2, 3, 4, 5] rfl rfl rfl (by decide) (fun u_45 H locs q_45 hP hD hS => ?_)
        have hP : va_P (dC, dI) vwCl [(zd, .inl (cI, 32768, .inl (aI Dk))), (zt, .inl (cI, 4096, .inl (aI Dt))), (zs, .inl (cI, 12, .inl (aI Sz))), (zc, .inl (cI, 32768, .inl (aI Ce))), (zo, .inl (cZ, 5200, .inl (aI Co))), (hm, .inr (6, [.int (iZ 0), .int (iZ w), .int (iZ h), .int (iZ mn), .ref zd, .ref zb, .ref zt, .int (iZ n), .ref zs, .ref zc, .int (iZ x), .int (iZ y), .int (iZ bw), .int (iZ bh), .int (iZ t_), .int (iZ qr), .int (iZ fo), .ref zo]))] H := hP
        have hD : va_D A [(zd, .inl (cI, 32768, .inl (aI Dk))), (zt, .inl (cI, 4096, .inl (aI Dt))), (zs, .inl (cI, 12, .inl (aI Sz))), (zc, .inl (cI, 32768, .inl (aI Ce))), (zo, .inl (cZ, 5200, .inl (aI Co))), (hm, .inr (6, [.int (iZ 0), .int (iZ w), .int (iZ h), .int (iZ mn), .ref zd, .ref zb, .ref zt, .int (iZ n), .ref zs, .ref zc, .int (iZ x), .int (iZ y), .int (iZ bw), .int (iZ bh), .int (iZ t_), .int (iZ qr), .int (iZ fo), .ref zo]))] := hD
        refine lv_aload_n hx hb d_Mo_frame_48 rfl (lv_at hl 0 rfl) ?_
        refine lv_iconst (v := iZ (0)) hx hb d_Mo_frame_49 rfl ?_
        refine zc_i (w1 := fun (u_50 : Int → Int32) => [(hm, .inr (6, [.int (iZ 0), .int (iZ w), .int (iZ h), .int (iZ mn), .ref zd, .ref zb, .ref zt, .int (iZ n), .ref zs, .ref zc, .int (iZ x), .int (iZ y), .int (iZ bw), .int (iZ bh), .int (iZ t_), .int (iZ qr), .int (iZ fo), .ref zo])), (zd, .inl (cI, 32768, .inl (aI u_50))), (zt, .inl (cI, 4096, .inl (aI Dt))), (zs, .inl (cI, 12, .inl (aI Sz))), (zc, .inl (cI, 32768, .inl (aI Ce))), (zo, .inl (cZ, 5200, .inl (aI Co)))]) (wr := []) (va_runV (As := [.int (iZ 0)]) (rest := []) ⟨hx, hb, hml, hown, hts⟩ (c_Model_draw l dC dI hm zd zb zt zs zc zo 0 w h mn n x y bw bh t_ qr fo cI cZ Dt Sz Ce Co (fun _ => iZ 0) dr (fun _ => false) 0 0 0 (frB x y bw bh t_) Dk pic 0 H.size (w1) (w2) (h1) (h2) (mn1) (mn2) (hM) (hO) (by omega) (by omega) (by omega) (by omega) (n1) (n2) (hT) (by omega) (by omega) (fun _ => by omega) (fun _ => rfl) (fun z9 => absurd z9 (by omega)) (fun z9 => absurd z9 (by omega)) (fun z9 => absurd z9 (by omega)) (fun z9 => absurd z9 (by omega)) (fun z9 => absurd z9 (by omega)) (fun z9 => absurd z9 (by omega)) (fun z9 => absurd z9 (by omega)) (fun z9 => absurd z9 (by omega)) (fun z9 => absurd z9 (by omega)) (fun z9 => absurd z9 (by omega)) (fun z9 => absurd z9 (by omega))) (cwV 1 hts (gV t_778 t_780 s_16 t_6 t_781) rfl rfl rfl (by decide +kernel) ⟨Nat.le_of_ble_eq_true rfl, Nat.le_of_ble_eq_true rfl⟩) ⟨zPm_blind, va_recv hK hP (ci := 6) (q0 := 5) rfl rfl, zPm_pre hP hD hK [5, 0, 1, 2, 3, 4] [0, 1] rfl rfl rfl rfl⟩ rfl rfl hl.1 rfl (lv_room (Nat.le_of_ble_eq_true rfl)) d_Mo_frame_50 ⟨Nat.le_of_ble_eq_true rfl, Nat.le_of_ble_eq_true rfl⟩) hP hD hS hA [5, 0, 1, 2, 3, 4] [] rfl rfl rfl (by decide) (fun r_50 u_50 H locs q_50 hP hD hS => ?_)
        have hP : va_P (dC, dI) vwCl [(hm, .inr (6, [.int (iZ 0), .int (iZ w), .int (iZ h), .int (iZ mn), .ref zd, .ref zb, .ref zt, .int (iZ n), .ref zs, .ref zc, .int (iZ x), .int (iZ y), .int (iZ bw), .int (iZ bh), .int (iZ t_), .int (iZ qr), .int (iZ fo), .ref zo])), (zd, .inl (cI, 32768, .inl (aI u_50))), (zt, .inl (cI, 4096, .inl (aI Dt))), (zs, .inl (cI, 12, .inl (aI Sz))), (zc, .inl (cI, 32768, .inl (aI Ce))), (zo, .inl (cZ, 5200, .inl (aI Co)))] H := hP
        have hD : va_D A [(hm, .inr (6, [.int (iZ 0), .int (iZ w), .int (iZ h), .int (iZ mn), .ref zd, .ref zb, .ref zt, .int (iZ n), .ref zs, .ref zc, .int (iZ x), .int (iZ y), .int (iZ bw), .int (iZ bh), .int (iZ t_), .int (iZ qr), .int (iZ fo), .ref zo])), (zd, .inl (cI, 32768, .inl (aI u_50))), (zt, .inl (cI, 4096, .inl (aI Dt))), (zs, .inl (cI, 12, .inl (aI Sz))), (zc, .inl (cI, 32768, .inl (aI Ce))), (zo, .inl (cZ, 5200, .inl (aI Co)))] := hD
        obtain ⟨rfl, q_50⟩ := q_50
        exact W.iret hx hb hr (fun t ht hW => ⟨⟨_, ((0, u_50, fun k9 => [x, y, bw, bh, t_, qr, fo].getD k9 0)), rfl, ⟨_, rfl, Or.inl ⟨by omega, rfl, rfl, q_50⟩⟩, by rw [ht]; exact hP, va_K.moved hW.alike hK, hD⟩, hS.F ht⟩) hS.2.2 d_Mo_frame_53
      · exact absurd c_32 (by omega)
    · have c_17 := of_decide_eq_true c_17
      refine lv_iconst (v := iZ (1)) hx hb d_Mo_frame_20 rfl ?_
      refine lv_goto (tgt := 25) hx hb d_Mo_frame_21 (by decide) ?_
      refine va_put (D := (dC, dI)) (ci := 6) (v := .int (iZ 1)) (ty := .int) (C := R_Mo) (T := T_Mo) (N := 18) hx hb hts wi_Mo ty_Mo ty_Mo_ok nd_Mo hown hK hP hD hS 0 rfl rfl 0 (by decide) (hts _ t_684) (fun _ h9 => h9) rfl (by decide +kernel) rfl rfl (Nat.le_of_ble_eq_true rfl) d_Mo_frame_25 (fun H locs hP hD hS => ?_)
      have hP : va_P (dC, dI) vwCl [(hm, .inr (6, [.int (iZ 1), .int (iZ w), .int (iZ h), .int (iZ mn), .ref zd, .ref zb, .ref zt, .int (iZ n), .ref zs, .ref zc, .int (iZ fx), .int (iZ fy), .int (iZ fa), .int (iZ fb), .int (iZ fc), .int (iZ qr), .int (iZ fo), .ref zo])), (zd, .inl (cI, 32768, .inl (aI Dk))), (zt, .inl (cI, 4096, .inl (aI Dt))), (zs, .inl (cI, 12, .inl (aI Sz))), (zc, .inl (cI, 32768, .inl (aI Ce))), (zo, .inl (cZ, 5200, .inl (aI Co)))] H := hP
      have hD : va_D A [(hm, .inr (6, [.int (iZ 1), .int (iZ w), .int (iZ h), .int (iZ mn), .ref zd, .ref zb, .ref zt, .int (iZ n), .ref zs, .ref zc, .int (iZ fx), .int (iZ fy), .int (iZ fa), .int (iZ fb), .int (iZ fc), .int (iZ qr), .int (iZ fo), .ref zo])), (zd, .inl (cI, 32768, .inl (aI Dk))), (zt, .inl (cI, 4096, .inl (aI Dt))), (zs, .inl (cI, 12, .inl (aI Sz))), (zc, .inl (cI, 32768, .inl (aI Ce))), (zo, .inl (cZ, 5200, .inl (aI Co)))] := hD
      refine lv_aload_n hx hb d_Mo_frame_28 rfl (lv_at hl 0 rfl) ?_
      refine va_get (D := (dC, dI)) (ci := 6) (v := .int (iZ 1)) (C := R_Mo) (T := T_Mo) (N := 18) hx hb hts wi_Mo hown hK hP 0 rfl rfl 0 (by decide) (hts _ t_684) (fun _ h9 => h9) rfl d_Mo_frame_29 ?_
      refine zi_if_le (tgt := 37) hx hb d_Mo_frame_32 (by decide) (by omega) (by omega) (fun c_32 => ?_) (fun c_32 => ?_)
      · exact absurd c_32 (by omega)
      · refine lv_iconst (v := iZ (0)) hx hb d_Mo_frame_35 rfl ?_
        exact W.iret hx hb hr (fun t ht hW => ⟨⟨_, ((1, Dk, fun k9 => [fx, fy, fa, fb, fc, qr, fo].getD k9 0)), rfl, ⟨_, rfl, Or.inr ⟨by omega, rfl, rfl⟩⟩, by rw [ht]; exact hP, va_K.moved hW.alike hK, hD⟩, hS.F ht⟩) hS.2.2 d_Mo_frame_36
theorem d_Mo_ellipse_0 : decode c_yMo_ellipse 0 = .ok (.aload_n 0, 1) := by decide +kernel
theorem d_Mo_ellipse_1 : decode c_yMo_ellipse 1 = .ok (.iload_n 1, 1) := by decide +kernel
theorem d_Mo_ellipse_2 : decode c_yMo_ellipse 2 = .ok (.iload_n 2, 1) := by decide +kernel
theorem d_Mo_ellipse_3 : decode c_yMo_ellipse 3 = .ok (.invokestatic 124, 3) := by decide +kernel
theorem d_Mo_ellipse_6 : decode c_yMo_ellipse 6 = .ok (.ifCond .ne 14, 3) := by decide +kernel
theorem d_Mo_ellipse_9 : decode c_yMo_ellipse 9 = .ok (.iload_n 3, 1) := by decide +kernel
theorem d_Mo_ellipse_10 : decode c_yMo_ellipse 10 = .ok (.iload 4, 2) := by decide +kernel
theorem d_Mo_ellipse_12 : decode c_yMo_ellipse 12 = .ok (.iload 5, 2) := by decide +kernel
theorem d_Mo_ellipse_14 : decode c_yMo_ellipse 14 = .ok (.invokestatic 127, 3) := by decide +kernel
theorem d_Mo_ellipse_17 : decode c_yMo_ellipse 17 = .ok (.ifCond .eq 7, 3) := by decide +kernel
theorem d_Mo_ellipse_20 : decode c_yMo_ellipse 20 = .ok (.iconst 1, 1) := by decide +kernel
theorem d_Mo_ellipse_21 : decode c_yMo_ellipse 21 = .ok (.goto 4, 3) := by decide +kernel
theorem d_Mo_ellipse_24 : decode c_yMo_ellipse 24 = .ok (.iconst 0, 1) := by decide +kernel
theorem d_Mo_ellipse_25 : decode c_yMo_ellipse 25 = .ok (.putfield 37, 3) := by decide +kernel
theorem d_Mo_ellipse_28 : decode c_yMo_ellipse 28 = .ok (.aload_n 0, 1) := by decide +kernel
theorem d_Mo_ellipse_29 : decode c_yMo_ellipse 29 = .ok (.getfield 37, 3) := by decide +kernel
theorem d_Mo_ellipse_32 : decode c_yMo_ellipse 32 = .ok (.ifCond .le 5, 3) := by decide +kernel
theorem d_Mo_ellipse_35 : decode c_yMo_ellipse 35 = .ok (.iconst 0, 1) := by decide +kernel
theorem d_Mo_ellipse_36 : decode c_yMo_ellipse 36 = .ok (.ireturn, 1) := by decide +kernel
theorem d_Mo_ellipse_37 : decode c_yMo_ellipse 37 = .ok (.aload_n 0, 1) := by decide +kernel
theorem d_Mo_ellipse_38 : decode c_yMo_ellipse 38 = .ok (.iload_n 1, 1) := by decide +kernel
theorem d_Mo_ellipse_39 : decode c_yMo_ellipse 39 = .ok (.iload_n 2, 1) := by decide +kernel
theorem d_Mo_ellipse_40 : decode c_yMo_ellipse 40 = .ok (.iload_n 3, 1) := by decide +kernel
theorem d_Mo_ellipse_41 : decode c_yMo_ellipse 41 = .ok (.iload 4, 2) := by decide +kernel
theorem d_Mo_ellipse_43 : decode c_yMo_ellipse 43 = .ok (.iload 5, 2) := by decide +kernel
theorem d_Mo_ellipse_45 : decode c_yMo_ellipse 45 = .ok (.invokevirtual 130, 3) := by decide +kernel
theorem d_Mo_ellipse_48 : decode c_yMo_ellipse 48 = .ok (.aload_n 0, 1) := by decide +kernel
theorem d_Mo_ellipse_49 : decode c_yMo_ellipse 49 = .ok (.iconst 2, 1) := by decide +kernel
theorem d_Mo_ellipse_50 : decode c_yMo_ellipse 50 = .ok (.invokevirtual 134, 3) := by decide +kernel
theorem d_Mo_ellipse_53 : decode c_yMo_ellipse 53 = .ok (.ireturn, 1) := by decide +kernel
set_option maxHeartbeats 4000000 in
set_option maxRecDepth 100000 in
theorem c_Model_ellipse (l : Launch) (dC : Nat → ClassId) (dI : Nat → Nat → Nat) (hm zd zb zt zs zc zo : Nat) (tw w h mn n fx fy fa fb fc qr fo : Int) (cI cZ : ClassId) (Dt Sz Ce Co : Int → Int32) (dr : Int → Int) (Dk : Int → Int32) (pic : Int → Int → Bool) (x y bw bh t_ : Int) (sz : Nat) (w1 : 1 ≤ w) (w2 : w ≤ 1024) (h1 : 1 ≤ h) (h2 : h ≤ 1024) (mn1 : 0 ≤ mn) (mn2 : mn ≤ 2) (hM : RepM Dk pic) (hO : Off w h pic) (n1 : 0 ≤ n) (n2 : n ≤ 4096) (hT : RepT Dt n dr) (x1 : -2147483648 ≤ x) (y1 : -2147483648 ≤ y) (bw1 : -2147483648 ≤ bw) (bh1 : -2147483648 ≤ bh) (t_1 : -2147483648 ≤ t_) (x2 : x ≤ 2147483647) (y2 : y ≤ 2147483647) (bw2 : bw ≤ 2147483647) (bh2 : bh ≤ 2147483647) (t_2 : t_ ≤ 2147483647) : Met l y_Mo_ellipse w_Mo_ellipse ({ frames := 4, cells := 0, slots := 0, locals := 106 }) (va_Pc [.ref hm, .int (iZ x), .int (iZ y), .int (iZ bw), .int (iZ bh), .int (iZ t_)] (zPm (dC, dI) vwCl [(hm, .inr (6, [.int (iZ tw), .int (iZ w), .int (iZ h), .int (iZ mn), .ref zd, .ref zb, .ref zt, .int (iZ n), .ref zs, .ref zc, .int (iZ fx), .int (iZ fy), .int (iZ fa), .int (iZ fb), .int (iZ fc), .int (iZ qr), .int (iZ fo), .ref zo])), (zd, .inl (cI, 32768, .inl (aI Dk))), (zt, .inl (cI, 4096, .inl (aI Dt))), (zs, .inl (cI, 12, .inl (aI Sz))), (zc, .inl (cI, 32768, .inl (aI Ce))), (zo, .inl (cZ, 5200, .inl (aI Co)))] [(cI, .int), (cZ, .boolean)] sz)) (va_Qi (fun (r : Int32) (u : Int × (Int → Int32) × (Nat → Int)) => ∃ z : Int, r = iZ z ∧ (((-4096 ≤ x ∧ x ≤ 4096 ∧ -4096 ≤ y ∧ y ≤ 4096 ∧ 1 ≤ bw ∧ bw ≤ 2048 ∧ 1 ≤ bh ∧ bh ≤ 2048 ∧ 1 ≤ t_ ∧ t_ ≤ 200) ∧ u.1 = 0 ∧ z = cnt w h (elD x y bw bh t_) ∧ RepM u.2.1 (drw mn (fun px py => onB w h px py && elD x y bw bh t_ px py) pic)) ∨ (¬ (-4096 ≤ x ∧ x ≤ 4096 ∧ -4096 ≤ y ∧ y ≤ 4096 ∧ 1 ≤ bw ∧ bw ≤ 2048 ∧ 1 ≤ bh ∧ bh ≤ 2048 ∧ 1 ≤ t_ ∧ t_ ≤ 200) ∧ u.1 = 1 ∧ u.2.1 = Dk))) (fun u => zB (dC, dI) vwCl [(cI, .int), (cZ, .boolean)] (va_A [(hm, .inr (6, [.int (iZ tw), .int (iZ w), .int (iZ h), .int (iZ mn), .ref zd, .ref zb, .ref zt, .int (iZ n), .ref zs, .ref zc, .int (iZ fx), .int (iZ fy), .int (iZ fa), .int (iZ fb), .int (iZ fc), .int (iZ qr), .int (iZ fo), .ref zo])), (zd, .inl (cI, 32768, .inl (aI Dk))), (zt, .inl (cI, 4096, .inl (aI Dt))), (zs, .inl (cI, 12, .inl (aI Sz))), (zc, .inl (cI, 32768, .inl (aI Ce))), (zo, .inl (cZ, 5200, .inl (aI Co)))] sz) [(hm, .inr (6, [.int (iZ u.1), .int (iZ w), .int (iZ h), .int (iZ mn), .ref zd, .ref zb, .ref zt, .int (iZ n), .ref zs, .ref zc, .int (iZ ((u.2.2 0))), .int (iZ ((u.2.2 1))), .int (iZ ((u.2.2 2))), .int (iZ ((u.2.2 3))), .int (iZ ((u.2.2 4))), .int (iZ ((u.2.2 5))), .int (iZ ((u.2.2 6))), .ref zo])), (zd, .inl (cI, 32768, .inl (aI u.2.1))), (zt, .inl (cI, 4096, .inl (aI Dt))), (zs, .inl (cI, 12, .inl (aI Sz))), (zc, .inl (cI, 32768, .inl (aI Ce))), (zo, .inl (cZ, 5200, .inl (aI Co)))]) (va_A [(hm, .inr (6, [.int (iZ tw), .int (iZ w), .int (iZ h), .int (iZ mn), .ref zd, .ref zb, .ref zt, .int (iZ n), .ref zs, .ref zc, .int (iZ fx), .int (iZ fy), .int (iZ fa), .int (iZ fb), .int (iZ fc), .int (iZ qr), .int (iZ fo), .ref zo])), (zd, .inl (cI, 32768, .inl (aI Dk))), (zt, .inl (cI, 4096, .inl (aI Dt))), (zs, .inl (cI, 12, .inl (aI Sz))), (zc, .inl (cI, 32768, .inl (aI Ce))), (zo, .inl (cZ, 5200, .inl (aI Co)))] sz)) 0 0 (va_A [(hm, .inr (6, [.int (iZ tw), .int (iZ w), .int (iZ h), .int (iZ mn), .ref zd, .ref zb, .ref zt, .int (iZ n), .ref zs, .ref zc, .int (iZ fx), .int (iZ fy), .int (iZ fa), .int (iZ fb), .int (iZ fc), .int (iZ qr), .int (iZ fo), .ref zo])), (zd, .inl (cI, 32768, .inl (aI Dk))), (zt, .inl (cI, 4096, .inl (aI Dt))), (zs, .inl (cI, 12, .inl (aI Sz))), (zc, .inl (cI, 32768, .inl (aI Ce))), (zo, .inl (cZ, 5200, .inl (aI Co)))] sz) := by
  refine Met.ofW (cc := c_yMo_ellipse) (maxL := 6) (ret := (some .int)) (by decide) rfl ?_
  intro p e s m args below meth c s₁ B hml hv
  obtain ⟨rfl, hsz, hP, hK, hD0⟩ := hv
  have hx := B.exec
  have hb := B.bytes
  have hr := B.returns
  have hts0 := atoms_spec (ws := w_Mo_ellipse) B.pre
  have hts : ∀ w ∈ gT, w.before _ s = true := fun w h => hts0 w (List.mem_cons_of_mem _ h)
  have hown : s.vm.findClass R_Mo = some m.cls := findClass_of_methodNamed B.named
  have hlocks := B.notSynchronized
  subst hsz
  have hD := hD0.self (sz := s.heap.size)
  generalize hAe : va_A [(hm, .inr (6, [.int (iZ tw), .int (iZ w), .int (iZ h), .int (iZ mn), .ref zd, .ref zb, .ref zt, .int (iZ n), .ref zs, .ref zc, .int (iZ fx), .int (iZ fy), .int (iZ fa), .int (iZ fb), .int (iZ fc), .int (iZ qr), .int (iZ fo), .ref zo])), (zd, .inl (cI, 32768, .inl (aI Dk))), (zt, .inl (cI, 4096, .inl (aI Dt))), (zs, .inl (cI, 12, .inl (aI Sz))), (zc, .inl (cI, 32768, .inl (aI Ce))), (zo, .inl (cZ, 5200, .inl (aI Co)))] s.heap.size = A at hD ⊢
  have hA : ∀ q : Nat, s.heap.size ≤ q → A q := fun q h => by rw [← hAe]; exact Or.inr h
  obtain ⟨H, hH⟩ : ∃ H, s.heap = H := ⟨_, rfl⟩
  have hS : va_S A s.heap H [] := by rw [← hH]; exact va_S.rf
  rw [hH] at hP
  rw [hH]
  have hl := lv_entry ([.ref hm, .int (iZ x), .int (iZ y), .int (iZ bw), .int (iZ bh), .int (iZ t_)]) (n := 6) (Nat.le_of_ble_eq_true rfl)
  rw [lg_entry_eq]
  generalize (lg_sl ([.ref hm, .int (iZ x), .int (iZ y), .int (iZ bw), .int (iZ bh), .int (iZ t_)]) ++ List.replicate (6 - (lg_sl ([.ref hm, .int (iZ x), .int (iZ y), .int (iZ bw), .int (iZ bh), .int (iZ t_)])).length) Slot.unset).toArray = ls at hl ⊢
  have hl : lv_has ls 6 [(0, .ref hm), (1, .int (iZ x)), (2, .int (iZ y)), (3, .int (iZ bw)), (4, .int (iZ bh)), (5, .int (iZ t_))] := hl
  refine lv_aload_n hx hb d_Mo_ellipse_0 rfl (lv_at hl 0 rfl) ?_
  refine lv_iload_n hx hb d_Mo_ellipse_1 rfl (lv_at hl 1 rfl) ?_
  refine lv_iload_n hx hb d_Mo_ellipse_2 rfl (lv_at hl 2 rfl) ?_
  refine vp_callSi (va_runS (As := [.int (iZ x), .int (iZ y)]) (rest := [.ref hm]) ⟨hx, hb, hml, hown, hts⟩ (c_Model_noPlace l dC dI x y (by first | omega | assumption) (by first | omega | assumption) (by first | omega | assumption) (by first | omega | assumption)) (va_cwS 2 hts (gS t_765 t_766 t_6 t_767) rfl rfl rfl (by decide +kernel) ⟨Nat.le_of_ble_eq_true rfl, Nat.le_of_ble_eq_true rfl⟩) ⟨zPr_blind, zPr_pre hP hK [] [] rfl rfl⟩ rfl rfl hl.1 rfl (lv_room (Nat.le_of_ble_eq_true rfl)) d_Mo_ellipse_3 ⟨Nat.le_of_ble_eq_true rfl, Nat.le_of_ble_eq_true rfl⟩).run (fun r_3 q_3 => ?_)
  obtain rfl := q_3
  refine zb_if_ne (tgt := 20) hx hb d_Mo_ellipse_6 (by decide) (fun c_6 => ?_) (fun c_6 => ?_)
  · have c_6 := of_decide_eq_true c_6
    refine lv_iconst (v := iZ (1)) hx hb d_Mo_ellipse_20 rfl ?_
    refine lv_goto (tgt := 25) hx hb d_Mo_ellipse_21 (by decide) ?_
    refine va_put (D := (dC, dI)) (ci := 6) (v := .int (iZ 1)) (ty := .int) (C := R_Mo) (T := T_Mo) (N := 18) hx hb hts wi_Mo ty_Mo ty_Mo_ok nd_Mo hown hK hP hD hS 0 rfl rfl 0 (by decide) (hts _ t_684) (fun _ h9 => h9) rfl (by decide +kernel) rfl rfl (Nat.le_of_ble_eq_true rfl) d_Mo_ellipse_25 (fun H locs hP hD hS => ?_)
    have hP : va_P (dC, dI) vwCl [(hm, .inr (6, [.int (iZ 1), .int (iZ w), .int (iZ h), .int (iZ mn), .ref zd, .ref zb, .ref zt, .int (iZ n), .ref zs, .ref zc, .int (iZ fx), .int (iZ fy), .int (iZ fa), .int (iZ fb), .int (iZ fc), .int (iZ qr), .int (iZ fo), .ref zo])), (zd, .inl (cI, 32768, .inl (aI Dk))), (zt, .inl (cI, 4096, .inl (aI Dt))), (zs, .inl (cI, 12, .inl (aI Sz))), (zc, .inl (cI, 32768, .inl (aI Ce))), (zo, .inl (cZ, 5200, .inl (aI Co)))] H := hP
    have hD : va_D A [(hm, .inr (6, [.int (iZ 1), .int (iZ w), .int (iZ h), .int (iZ mn), .ref zd, .ref zb, .ref zt, .int (iZ n), .ref zs, .ref zc, .int (iZ fx), .int (iZ fy), .int (iZ fa), .int (iZ fb), .int (iZ fc), .int (iZ qr), .int (iZ fo), .ref zo])), (zd, .inl (cI, 32768, .inl (aI Dk))), (zt, .inl (cI, 4096, .inl (aI Dt))), (zs, .inl (cI, 12, .inl (aI Sz))), (zc, .inl (cI, 32768, .inl (aI Ce))), (zo, .inl (cZ, 5200, .inl (aI Co)))] := hD
    refine lv_aload_n hx hb d_Mo_ellipse_28 rfl (lv_at hl 0 rfl) ?_
    refine va_get (D := (dC, dI)) (ci := 6) (v := .int (iZ 1)) (C := R_Mo) (T := T_Mo) (N := 18) hx hb hts wi_Mo hown hK hP 0 rfl rfl 0 (by decide) (hts _ t_684) (fun _ h9 => h9) rfl d_Mo_ellipse_29 ?_
    refine zi_if_le (tgt := 37) hx hb d_Mo_ellipse_32 (by decide) (by omega) (by omega) (fun c_32 => ?_) (fun c_32 => ?_)
    · exact absurd c_32 (by omega)
    · refine lv_iconst (v := iZ (0)) hx hb d_Mo_ellipse_35 rfl ?_
      exact W.iret hx hb hr (fun t ht hW => ⟨⟨_, ((1, Dk, fun k9 => [fx, fy, fa, fb, fc, qr, fo].getD k9 0)), rfl, ⟨_, rfl, Or.inr ⟨by omega, rfl, rfl⟩⟩, by rw [ht]; exact hP, va_K.moved hW.alike hK, hD⟩, hS.F ht⟩) hS.2.2 d_Mo_ellipse_36
  · have c_6 := of_decide_eq_false c_6
    refine lv_iload_n hx hb d_Mo_ellipse_9 rfl (lv_at hl 3 rfl) ?_
    refine lv_iload hx hb d_Mo_ellipse_10 (lv_at hl 4 rfl) ?_
    refine lv_iload hx hb d_Mo_ellipse_12 (lv_at hl 5 rfl) ?_
    refine vp_callSi (va_runS (As := [.int (iZ bw), .int (iZ bh), .int (iZ t_)]) (rest := [.ref hm]) ⟨hx, hb, hml, hown, hts⟩ (c_Model_noRing l dC dI bw bh t_ (by first | omega | assumption) (by first | omega | assumption) (by first | omega | assumption) (by first | omega | assumption) (by first | omega | assumption) (by first | omega | assumption)) (va_cwS 3 hts (gS t_768 t_769 t_6 t_770) rfl rfl rfl (by decide +kernel) ⟨Nat.le_of_ble_eq_true rfl, Nat.le_of_ble_eq_true rfl⟩) ⟨zPr_blind, zPr_pre hP hK [] [] rfl rfl⟩ rfl rfl hl.1 rfl (lv_room (Nat.le_of_ble_eq_true rfl)) d_Mo_ellipse_14 ⟨Nat.le_of_ble_eq_true rfl, Nat.le_of_ble_eq_true rfl⟩).run (fun r_14 q_14 => ?_)
    obtain rfl := q_14
    refine zb_if_eq (tgt := 24) hx hb d_Mo_ellipse_17 (by decide) (fun c_17 => ?_) (fun c_17 => ?_)
    · have c_17 := of_decide_eq_false c_17
      refine lv_iconst (v := iZ (0)) hx hb d_Mo_ellipse_24 rfl ?_
      refine va_put (D := (dC, dI)) (ci := 6) (v := .int (iZ 0)) (ty := .int) (C := R_Mo) (T := T_Mo) (N := 18) hx hb hts wi_Mo ty_Mo ty_Mo_ok nd_Mo hown hK hP hD hS 0 rfl rfl 0 (by decide) (hts _ t_684) (fun _ h9 => h9) rfl (by decide +kernel) rfl rfl (Nat.le_of_ble_eq_true rfl) d_Mo_ellipse_25 (fun H locs hP hD hS => ?_)
      have hP : va_P (dC, dI) vwCl [(hm, .inr (6, [.int (iZ 0), .int (iZ w), .int (iZ h), .int (iZ mn), .ref zd, .ref zb, .ref zt, .int (iZ n), .ref zs, .ref zc, .int (iZ fx), .int (iZ fy), .int (iZ fa), .int (iZ fb), .int (iZ fc), .int (iZ qr), .int (iZ fo), .ref zo])), (zd, .inl (cI, 32768, .inl (aI Dk))), (zt, .inl (cI, 4096, .inl (aI Dt))), (zs, .inl (cI, 12, .inl (aI Sz))), (zc, .inl (cI, 32768, .inl (aI Ce))), (zo, .inl (cZ, 5200, .inl (aI Co)))] H := hP
      have hD : va_D A [(hm, .inr (6, [.int (iZ 0), .int (iZ w), .int (iZ h), .int (iZ mn), .ref zd, .ref zb, .ref zt, .int (iZ n), .ref zs, .ref zc, .int (iZ fx), .int (iZ fy), .int (iZ fa), .int (iZ fb), .int (iZ fc), .int (iZ qr), .int (iZ fo), .ref zo])), (zd, .inl (cI, 32768, .inl (aI Dk))), (zt, .inl (cI, 4096, .inl (aI Dt))), (zs, .inl (cI, 12, .inl (aI Sz))), (zc, .inl (cI, 32768, .inl (aI Ce))), (zo, .inl (cZ, 5200, .inl (aI Co)))] := hD
      refine lv_aload_n hx hb d_Mo_ellipse_28 rfl (lv_at hl 0 rfl) ?_
      refine va_get (D := (dC, dI)) (ci := 6) (v := .int (iZ 0)) (C := R_Mo) (T := T_Mo) (N := 18) hx hb hts wi_Mo hown hK hP 0 rfl rfl 0 (by decide) (hts _ t_684) (fun _ h9 => h9) rfl d_Mo_ellipse_29 ?_
      refine zi_if_le (tgt := 37) hx hb d_Mo_ellipse_32 (by decide) (by omega) (by omega) (fun c_32 => ?_) (fun c_32 => ?_)
      · refine lv_aload_n hx hb d_Mo_ellipse_37 rfl (lv_at hl 0 rfl) ?_
        refine lv_iload_n hx hb d_Mo_ellipse_38 rfl (lv_at hl 1 rfl) ?_
        refine lv_iload_n hx hb d_Mo_ellipse_39 rfl (lv_at hl 2 rfl) ?_
        refine lv_iload_n hx hb d_Mo_ellipse_40 rfl (lv_at hl 3 rfl) ?_
        refine lv_iload hx hb d_Mo_ellipse_41 (lv_at hl 4 rfl) ?_
        refine lv_iload hx hb d_Mo_ellipse_43 (lv_at hl 5 rfl) ?_
        refine zc_v (w1 := fun (u_45 : Unit) => [(hm, .inr (6, [.int (iZ 0), .int (iZ w), .int (iZ h), .int (iZ mn), .ref zd, .ref zb, .ref zt, .int (iZ n), .ref zs, .ref zc, .int (iZ x), .int (iZ y), .int (iZ bw), .int (iZ bh), .int (iZ t_), .int (iZ qr), .int (iZ fo), .ref zo]))]) (wr := [(zd, .inl (cI, 32768, .inl (aI Dk))), (zt, .inl (cI, 4096, .inl (aI Dt))), (zs, .inl (cI, 12, .inl (aI Sz))), (zc, .inl (cI, 32768, .inl (aI Ce))), (zo, .inl (cZ, 5200, .inl (aI Co)))]) (va_runV (As := [.int (iZ x), .int (iZ y), .int (iZ bw), .int (iZ bh), .int (iZ t_)]) (rest := []) ⟨hx, hb, hml, hown, hts⟩ (c_Model_at l dC dI hm zd zb zt zs zc zo 0 w h mn n fx fy fa fb fc qr fo x y bw bh t_ H.size ) (cwV 5 hts (gV t_774 t_776 s_15 t_6 t_777) rfl rfl rfl (by decide +kernel) ⟨Nat.le_of_ble_eq_true rfl, Nat.le_of_ble_eq_true rfl⟩) ⟨zPm_blind, va_recv hK hP (ci := 6) (q0 := 0) rfl rfl, zPm_pre hP hD hK [0] [] rfl rfl rfl rfl⟩ rfl rfl hl.1 rfl (lv_room (Nat.le_of_ble_eq_true rfl)) d_Mo_ellipse_45 ⟨Nat.le_of_ble_eq_true rfl, Nat.le_of_ble_eq_true rfl⟩) hP hD hS hA [0] [1, 2, 3, 4, 5] rfl rfl rfl (by decide) (fun u_45 H locs q_45 hP hD hS => ?_)
        have hP : va_P (dC, dI) vwCl [(zd, .inl (cI, 32768, .inl (aI Dk))), (zt, .inl (cI, 4096, .inl (aI Dt))), (zs, .inl (cI, 12, .inl (aI Sz))), (zc, .inl (cI, 32768, .inl (aI Ce))), (zo, .inl (cZ, 5200, .inl (aI Co))), (hm, .inr (6, [.int (iZ 0), .int (iZ w), .int (iZ h), .int (iZ mn), .ref zd, .ref zb, .ref zt, .int (iZ n), .ref zs, .ref zc, .int (iZ x), .int (iZ y), .int (iZ bw), .int (iZ bh), .int (iZ t_), .int (iZ qr), .int (iZ fo), .ref zo]))] H := hP
        have hD : va_D A [(zd, .inl (cI, 32768, .inl (aI Dk))), (zt, .inl (cI, 4096, .inl (aI Dt))), (zs, .inl (cI, 12, .inl (aI Sz))), (zc, .inl (cI, 32768, .inl (aI Ce))), (zo, .inl (cZ, 5200, .inl (aI Co))), (hm, .inr (6, [.int (iZ 0), .int (iZ w), .int (iZ h), .int (iZ mn), .ref zd, .ref zb, .ref zt, .int (iZ n), .ref zs, .ref zc, .int (iZ x), .int (iZ y), .int (iZ bw), .int (iZ bh), .int (iZ t_), .int (iZ qr), .int (iZ fo), .ref zo]))] := hD
        refine lv_aload_n hx hb d_Mo_ellipse_48 rfl (lv_at hl 0 rfl) ?_
        refine lv_iconst (v := iZ (2)) hx hb d_Mo_ellipse_49 rfl ?_
        refine zc_i (w1 := fun (u_50 : Int → Int32) => [(hm, .inr (6, [.int (iZ 0), .int (iZ w), .int (iZ h), .int (iZ mn), .ref zd, .ref zb, .ref zt, .int (iZ n), .ref zs, .ref zc, .int (iZ x), .int (iZ y), .int (iZ bw), .int (iZ bh), .int (iZ t_), .int (iZ qr), .int (iZ fo), .ref zo])), (zd, .inl (cI, 32768, .inl (aI u_50))), (zt, .inl (cI, 4096, .inl (aI Dt))), (zs, .inl (cI, 12, .inl (aI Sz))), (zc, .inl (cI, 32768, .inl (aI Ce))), (zo, .inl (cZ, 5200, .inl (aI Co)))]) (wr := []) (va_runV (As := [.int (iZ 2)]) (rest := []) ⟨hx, hb, hml, hown, hts⟩ (c_Model_draw l dC dI hm zd zb zt zs zc zo 0 w h mn n x y bw bh t_ qr fo cI cZ Dt Sz Ce Co (fun _ => iZ 0) dr (fun _ => false) 0 0 0 (elD x y bw bh t_) Dk pic 2 H.size (w1) (w2) (h1) (h2) (mn1) (mn2) (hM) (hO) (by omega) (by omega) (by omega) (by omega) (n1) (n2) (hT) (by omega) (by omega) (fun _ => by omega) (fun z9 => absurd z9 (by omega)) (fun z9 => absurd z9 (by omega)) (fun z9 => absurd z9 (by omega)) (fun _ => rfl) (fun z9 => absurd z9 (by omega)) (fun z9 => absurd z9 (by omega)) (fun z9 => absurd z9 (by omega)) (fun z9 => absurd z9 (by omega)) (fun z9 => absurd z9 (by omega)) (fun z9 => absurd z9 (by omega)) (fun z9 => absurd z9 (by omega)) (fun z9 => absurd z9 (by omega))) (cwV 1 hts (gV t_778 t_780 s_16 t_6 t_781) rfl rfl rfl (by decide +kernel) ⟨Nat.le_of_ble_eq_true rfl, Nat.le_of_ble_eq_true rfl⟩) ⟨zPm_blind, va_recv hK hP (ci := 6) (q0 := 5) rfl rfl, zPm_pre hP hD hK [5, 0, 1, 2, 3, 4] [0, 1] rfl rfl rfl rfl⟩ rfl rfl hl.1 rfl (lv_room (Nat.le_of_ble_eq_true rfl)) d_Mo_ellipse_50 ⟨Nat.le_of_ble_eq_true rfl, Nat.le_of_ble_eq_true rfl⟩) hP hD hS hA [5, 0, 1, 2, 3, 4] [] rfl rfl rfl (by decide) (fun r_50 u_50 H locs q_50 hP hD hS => ?_)
        have hP : va_P (dC, dI) vwCl [(hm, .inr (6, [.int (iZ 0), .int (iZ w), .int (iZ h), .int (iZ mn), .ref zd, .ref zb, .ref zt, .int (iZ n), .ref zs, .ref zc, .int (iZ x), .int (iZ y), .int (iZ bw), .int (iZ bh), .int (iZ t_), .int (iZ qr), .int (iZ fo), .ref zo])), (zd, .inl (cI, 32768, .inl (aI u_50))), (zt, .inl (cI, 4096, .inl (aI Dt))), (zs, .inl (cI, 12, .inl (aI Sz))), (zc, .inl (cI, 32768, .inl (aI Ce))), (zo, .inl (cZ, 5200, .inl (aI Co)))] H := hP
        have hD : va_D A [(hm, .inr (6, [.int (iZ 0), .int (iZ w), .int (iZ h), .int (iZ mn), .ref zd, .ref zb, .ref zt, .int (iZ n), .ref zs, .ref zc, .int (iZ x), .int (iZ y), .int (iZ bw), .int (iZ bh), .int (iZ t_), .int (iZ qr), .int (iZ fo), .ref zo])), (zd, .inl (cI, 32768, .inl (aI u_50))), (zt, .inl (cI, 4096, .inl (aI Dt))), (zs, .inl (cI, 12, .inl (aI Sz))), (zc, .inl (cI, 32768, .inl (aI Ce))), (zo, .inl (cZ, 5200, .inl (aI Co)))] := hD
        obtain ⟨rfl, q_50⟩ := q_50
        exact W.iret hx hb hr (fun t ht hW => ⟨⟨_, ((0, u_50, fun k9 => [x, y, bw, bh, t_, qr, fo].getD k9 0)), rfl, ⟨_, rfl, Or.inl ⟨by omega, rfl, rfl, q_50⟩⟩, by rw [ht]; exact hP, va_K.moved hW.alike hK, hD⟩, hS.F ht⟩) hS.2.2 d_Mo_ellipse_53
      · exact absurd c_32 (by omega)
    · have c_17 := of_decide_eq_true c_17
      refine lv_iconst (v := iZ (1)) hx hb d_Mo_ellipse_20 rfl ?_
      refine lv_goto (tgt := 25) hx hb d_Mo_ellipse_21 (by decide) ?_
      refine va_put (D := (dC, dI)) (ci := 6) (v := .int (iZ 1)) (ty := .int) (C := R_Mo) (T := T_Mo) (N := 18) hx hb hts wi_Mo ty_Mo ty_Mo_ok nd_Mo hown hK hP hD hS 0 rfl rfl 0 (by decide) (hts _ t_684) (fun _ h9 => h9) rfl (by decide +kernel) rfl rfl (Nat.le_of_ble_eq_true rfl) d_Mo_ellipse_25 (fun H locs hP hD hS => ?_)
      have hP : va_P (dC, dI) vwCl [(hm, .inr (6, [.int (iZ 1), .int (iZ w), .int (iZ h), .int (iZ mn), .ref zd, .ref zb, .ref zt, .int (iZ n), .ref zs, .ref zc, .int (iZ fx), .int (iZ fy), .int (iZ fa), .int (iZ fb), .int (iZ fc), .int (iZ qr), .int (iZ fo), .ref zo])), (zd, .inl (cI, 32768, .inl (aI Dk))), (zt, .inl (cI, 4096, .inl (aI Dt))), (zs, .inl (cI, 12, .inl (aI Sz))), (zc, .inl (cI, 32768, .inl (aI Ce))), (zo, .inl (cZ, 5200, .inl (aI Co)))] H := hP
      have hD : va_D A [(hm, .inr (6, [.int (iZ 1), .int (iZ w), .int (iZ h), .int (iZ mn), .ref zd, .ref zb, .ref zt, .int (iZ n), .ref zs, .ref zc, .int (iZ fx), .int (iZ fy), .int (iZ fa), .int (iZ fb), .int (iZ fc), .int (iZ qr), .int (iZ fo), .ref zo])), (zd, .inl (cI, 32768, .inl (aI Dk))), (zt, .inl (cI, 4096, .inl (aI Dt))), (zs, .inl (cI, 12, .inl (aI Sz))), (zc, .inl (cI, 32768, .inl (aI Ce))), (zo, .inl (cZ, 5200, .inl (aI Co)))] := hD
      refine lv_aload_n hx hb d_Mo_ellipse_28 rfl (lv_at hl 0 rfl) ?_
      refine va_get (D := (dC, dI)) (ci := 6) (v := .int (iZ 1)) (C := R_Mo) (T := T_Mo) (N := 18) hx hb hts wi_Mo hown hK hP 0 rfl rfl 0 (by decide) (hts _ t_684) (fun _ h9 => h9) rfl d_Mo_ellipse_29 ?_
      refine zi_if_le (tgt := 37) hx hb d_Mo_ellipse_32 (by decide) (by omega) (by omega) (fun c_32 => ?_) (fun c_32 => ?_)
      · exact absurd c_32 (by omega)
      · refine lv_iconst (v := iZ (0)) hx hb d_Mo_ellipse_35 rfl ?_
        exact W.iret hx hb hr (fun t ht hW => ⟨⟨_, ((1, Dk, fun k9 => [fx, fy, fa, fb, fc, qr, fo].getD k9 0)), rfl, ⟨_, rfl, Or.inr ⟨by omega, rfl, rfl⟩⟩, by rw [ht]; exact hP, va_K.moved hW.alike hK, hD⟩, hS.F ht⟩) hS.2.2 d_Mo_ellipse_36
theorem d_Mo_line_0 : decode c_yMo_line 0 = .ok (.aload_n 0, 1) := by decide +kernel
theorem d_Mo_line_1 : decode c_yMo_line 1 = .ok (.iload_n 1, 1) := by decide +kernel
theorem d_Mo_line_2 : decode c_yMo_line 2 = .ok (.iload_n 2, 1) := by decide +kernel
theorem d_Mo_line_3 : decode c_yMo_line 3 = .ok (.invokestatic 124, 3) := by decide +kernel
theorem d_Mo_line_6 : decode c_yMo_line 6 = .ok (.ifCond .ne 24, 3) := by decide +kernel
theorem d_Mo_line_9 : decode c_yMo_line 9 = .ok (.iload_n 3, 1) := by decide +kernel
theorem d_Mo_line_10 : decode c_yMo_line 10 = .ok (.iload 4, 2) := by decide +kernel
theorem d_Mo_line_12 : decode c_yMo_line 12 = .ok (.invokestatic 124, 3) := by decide +kernel
theorem d_Mo_line_15 : decode c_yMo_line 15 = .ok (.ifCond .ne 15, 3) := by decide +kernel
theorem d_Mo_line_18 : decode c_yMo_line 18 = .ok (.iload 5, 2) := by decide +kernel
theorem d_Mo_line_20 : decode c_yMo_line 20 = .ok (.iconst 1, 1) := by decide +kernel
theorem d_Mo_line_21 : decode c_yMo_line 21 = .ok (.sipush 200, 3) := by decide +kernel
theorem d_Mo_line_24 : decode c_yMo_line 24 = .ok (.invokestatic 121, 3) := by decide +kernel
theorem d_Mo_line_27 : decode c_yMo_line 27 = .ok (.ifCond .eq 7, 3) := by decide +kernel
theorem d_Mo_line_30 : decode c_yMo_line 30 = .ok (.iconst 1, 1) := by decide +kernel
theorem d_Mo_line_31 : decode c_yMo_line 31 = .ok (.goto 4, 3) := by decide +kernel
theorem d_Mo_line_34 : decode c_yMo_line 34 = .ok (.iconst 0, 1) := by decide +kernel
theorem d_Mo_line_35 : decode c_yMo_line 35 = .ok (.putfield 37, 3) := by decide +kernel
theorem d_Mo_line_38 : decode c_yMo_line 38 = .ok (.aload_n 0, 1) := by decide +kernel
theorem d_Mo_line_39 : decode c_yMo_line 39 = .ok (.getfield 37, 3) := by decide +kernel
theorem d_Mo_line_42 : decode c_yMo_line 42 = .ok (.ifCond .le 5, 3) := by decide +kernel
theorem d_Mo_line_45 : decode c_yMo_line 45 = .ok (.iconst 0, 1) := by decide +kernel
theorem d_Mo_line_46 : decode c_yMo_line 46 = .ok (.ireturn, 1) := by decide +kernel
theorem d_Mo_line_47 : decode c_yMo_line 47 = .ok (.aload_n 0, 1) := by decide +kernel
theorem d_Mo_line_48 : decode c_yMo_line 48 = .ok (.iload_n 1, 1) := by decide +kernel
theorem d_Mo_line_49 : decode c_yMo_line 49 = .ok (.iload_n 2, 1) := by decide +kernel
theorem d_Mo_line_50 : decode c_yMo_line 50 = .ok (.iload_n 3, 1) := by decide +kernel
theorem d_Mo_line_51 : decode c_yMo_line 51 = .ok (.iload 4, 2) := by decide +kernel
theorem d_Mo_line_53 : decode c_yMo_line 53 = .ok (.iload 5, 2) := by decide +kernel
theorem d_Mo_line_55 : decode c_yMo_line 55 = .ok (.invokevirtual 130, 3) := by decide +kernel
theorem d_Mo_line_58 : decode c_yMo_line 58 = .ok (.aload_n 0, 1) := by decide +kernel
theorem d_Mo_line_59 : decode c_yMo_line 59 = .ok (.iconst 1, 1) := by decide +kernel
theorem d_Mo_line_60 : decode c_yMo_line 60 = .ok (.invokevirtual 134, 3) := by decide +kernel
theorem d_Mo_line_63 : decode c_yMo_line 63 = .ok (.ireturn, 1) := by decide +kernel
set_option maxHeartbeats 4000000 in
set_option maxRecDepth 100000 in
theorem c_Model_line (l : Launch) (dC : Nat → ClassId) (dI : Nat → Nat → Nat) (hm zd zb zt zs zc zo : Nat) (tw w h mn n fx fy fa fb fc qr fo : Int) (cI cZ : ClassId) (Dt Sz Ce Co : Int → Int32) (dr : Int → Int) (Dk : Int → Int32) (pic : Int → Int → Bool) (a b c0 d t_ : Int) (sz : Nat) (w1 : 1 ≤ w) (w2 : w ≤ 1024) (h1 : 1 ≤ h) (h2 : h ≤ 1024) (mn1 : 0 ≤ mn) (mn2 : mn ≤ 2) (hM : RepM Dk pic) (hO : Off w h pic) (n1 : 0 ≤ n) (n2 : n ≤ 4096) (hT : RepT Dt n dr) (a1 : -2147483648 ≤ a) (b1 : -2147483648 ≤ b) (c01 : -2147483648 ≤ c0) (d1 : -2147483648 ≤ d) (t_1 : -2147483648 ≤ t_) (a2 : a ≤ 2147483647) (b2 : b ≤ 2147483647) (c02 : c0 ≤ 2147483647) (d2 : d ≤ 2147483647) (t_2 : t_ ≤ 2147483647) : Met l y_Mo_line w_Mo_line ({ frames := 4, cells := 0, slots := 0, locals := 106 }) (va_Pc [.ref hm, .int (iZ a), .int (iZ b), .int (iZ c0), .int (iZ d), .int (iZ t_)] (zPm (dC, dI) vwCl [(hm, .inr (6, [.int (iZ tw), .int (iZ w), .int (iZ h), .int (iZ mn), .ref zd, .ref zb, .ref zt, .int (iZ n), .ref zs, .ref zc, .int (iZ fx), .int (iZ fy), .int (iZ fa), .int (iZ fb), .int (iZ fc), .int (iZ qr), .int (iZ fo), .ref zo])), (zd, .inl (cI, 32768, .inl (aI Dk))), (zt, .inl (cI, 4096, .inl (aI Dt))), (zs, .inl (cI, 12, .inl (aI Sz))), (zc, .inl (cI, 32768, .inl (aI Ce))), (zo, .inl (cZ, 5200, .inl (aI Co)))] [(cI, .int), (cZ, .boolean)] sz)) (va_Qi (fun (r : Int32) (u : Int × (Int → Int32) × (Nat → Int)) => ∃ z : Int, r = iZ z ∧ (((-4096 ≤ a ∧ a ≤ 4096 ∧ -4096 ≤ b ∧ b ≤ 4096 ∧ -4096 ≤ c0 ∧ c0 ≤ 4096 ∧ -4096 ≤ d ∧ d ≤ 4096 ∧ 1 ≤ t_ ∧ t_ ≤ 200) ∧ u.1 = 0 ∧ z = cnt w h (lnD a b c0 d t_) ∧ RepM u.2.1 (drw mn (fun px py => onB w h px py && lnD a b c0 d t_ px py) pic)) ∨ (¬ (-4096 ≤ a ∧ a ≤ 4096 ∧ -4096 ≤ b ∧ b ≤ 4096 ∧ -4096 ≤ c0 ∧ c0 ≤ 4096 ∧ -4096 ≤ d ∧ d ≤ 4096 ∧ 1 ≤ t_ ∧ t_ ≤ 200) ∧ u.1 = 1 ∧ u.2.1 = Dk))) (fun u => zB (dC, dI) vwCl [(cI, .int), (cZ, .boolean)] (va_A [(hm, .inr (6, [.int (iZ tw), .int (iZ w), .int (iZ h), .int (iZ mn), .ref zd, .ref zb, .ref zt, .int (iZ n), .ref zs, .ref zc, .int (iZ fx), .int (iZ fy), .int (iZ fa), .int (iZ fb), .int (iZ fc), .int (iZ qr), .int (iZ fo), .ref zo])), (zd, .inl (cI, 32768, .inl (aI Dk))), (zt, .inl (cI, 4096, .inl (aI Dt))), (zs, .inl (cI, 12, .inl (aI Sz))), (zc, .inl (cI, 32768, .inl (aI Ce))), (zo, .inl (cZ, 5200, .inl (aI Co)))] sz) [(hm, .inr (6, [.int (iZ u.1), .int (iZ w), .int (iZ h), .int (iZ mn), .ref zd, .ref zb, .ref zt, .int (iZ n), .ref zs, .ref zc, .int (iZ ((u.2.2 0))), .int (iZ ((u.2.2 1))), .int (iZ ((u.2.2 2))), .int (iZ ((u.2.2 3))), .int (iZ ((u.2.2 4))), .int (iZ ((u.2.2 5))), .int (iZ ((u.2.2 6))), .ref zo])), (zd, .inl (cI, 32768, .inl (aI u.2.1))), (zt, .inl (cI, 4096, .inl (aI Dt))), (zs, .inl (cI, 12, .inl (aI Sz))), (zc, .inl (cI, 32768, .inl (aI Ce))), (zo, .inl (cZ, 5200, .inl (aI Co)))]) (va_A [(hm, .inr (6, [.int (iZ tw), .int (iZ w), .int (iZ h), .int (iZ mn), .ref zd, .ref zb, .ref zt, .int (iZ n), .ref zs, .ref zc, .int (iZ fx), .int (iZ fy), .int (iZ fa), .int (iZ fb), .int (iZ fc), .int (iZ qr), .int (iZ fo), .ref zo])), (zd, .inl (cI, 32768, .inl (aI Dk))), (zt, .inl (cI, 4096, .inl (aI Dt))), (zs, .inl (cI, 12, .inl (aI Sz))), (zc, .inl (cI, 32768, .inl (aI Ce))), (zo, .inl (cZ, 5200, .inl (aI Co)))] sz)) 0 0 (va_A [(hm, .inr (6, [.int (iZ tw), .int (iZ w), .int (iZ h), .int (iZ mn), .ref zd, .ref zb, .ref zt, .int (iZ n), .ref zs, .ref zc, .int (iZ fx), .int (iZ fy), .int (iZ fa), .int (iZ fb), .int (iZ fc), .int (iZ qr), .int (iZ fo), .ref zo])), (zd, .inl (cI, 32768, .inl (aI Dk))), (zt, .inl (cI, 4096, .inl (aI Dt))), (zs, .inl (cI, 12, .inl (aI Sz))), (zc, .inl (cI, 32768, .inl (aI Ce))), (zo, .inl (cZ, 5200, .inl (aI Co)))] sz) := by
  refine Met.ofW (cc := c_yMo_line) (maxL := 6) (ret := (some .int)) (by decide) rfl ?_
  intro p e s m args below meth c s₁ B hml hv
  obtain ⟨rfl, hsz, hP, hK, hD0⟩ := hv
  have hx := B.exec
  have hb := B.bytes
  have hr := B.returns
  have hts0 := atoms_spec (ws := w_Mo_line) B.pre
  have hts : ∀ w ∈ gT, w.before _ s = true := fun w h => hts0 w (List.mem_cons_of_mem _ h)
  have hown : s.vm.findClass R_Mo = some m.cls := findClass_of_methodNamed B.named
  have hlocks := B.notSynchronized
  subst hsz
  have hD := hD0.self (sz := s.heap.size)
  generalize hAe : va_A [(hm, .inr (6, [.int (iZ tw), .int (iZ w), .int (iZ h), .int (iZ mn), .ref zd, .ref zb, .ref zt, .int (iZ n), .ref zs, .ref zc, .int (iZ fx), .int (iZ fy), .int (iZ fa), .int (iZ fb), .int (iZ fc), .int (iZ qr), .int (iZ fo), .ref zo])), (zd, .inl (cI, 32768, .inl (aI Dk))), (zt, .inl (cI, 4096, .inl (aI Dt))), (zs, .inl (cI, 12, .inl (aI Sz))), (zc, .inl (cI, 32768, .inl (aI Ce))), (zo, .inl (cZ, 5200, .inl (aI Co)))] s.heap.size = A at hD ⊢
  have hA : ∀ q : Nat, s.heap.size ≤ q → A q := fun q h => by rw [← hAe]; exact Or.inr h
  obtain ⟨H, hH⟩ : ∃ H, s.heap = H := ⟨_, rfl⟩
  have hS : va_S A s.heap H [] := by rw [← hH]; exact va_S.rf
  rw [hH] at hP
  rw [hH]
  have hl := lv_entry ([.ref hm, .int (iZ a), .int (iZ b), .int (iZ c0), .int (iZ d), .int (iZ t_)]) (n := 6) (Nat.le_of_ble_eq_true rfl)
  rw [lg_entry_eq]
  generalize (lg_sl ([.ref hm, .int (iZ a), .int (iZ b), .int (iZ c0), .int (iZ d), .int (iZ t_)]) ++ List.replicate (6 - (lg_sl ([.ref hm, .int (iZ a), .int (iZ b), .int (iZ c0), .int (iZ d), .int (iZ t_)])).length) Slot.unset).toArray = ls at hl ⊢
  have hl : lv_has ls 6 [(0, .ref hm), (1, .int (iZ a)), (2, .int (iZ b)), (3, .int (iZ c0)), (4, .int (iZ d)), (5, .int (iZ t_))] := hl
  refine lv_aload_n hx hb d_Mo_line_0 rfl (lv_at hl 0 rfl) ?_
  refine lv_iload_n hx hb d_Mo_line_1 rfl (lv_at hl 1 rfl) ?_
  refine lv_iload_n hx hb d_Mo_line_2 rfl (lv_at hl 2 rfl) ?_
  refine vp_callSi (va_runS (As := [.int (iZ a), .int (iZ b)]) (rest := [.ref hm]) ⟨hx, hb, hml, hown, hts⟩ (c_Model_noPlace l dC dI a b (by first | omega | assumption) (by first | omega | assumption) (by first | omega | assumption) (by first | omega | assumption)) (va_cwS 2 hts (gS t_765 t_766 t_6 t_767) rfl rfl rfl (by decide +kernel) ⟨Nat.le_of_ble_eq_true rfl, Nat.le_of_ble_eq_true rfl⟩) ⟨zPr_blind, zPr_pre hP hK [] [] rfl rfl⟩ rfl rfl hl.1 rfl (lv_room (Nat.le_of_ble_eq_true rfl)) d_Mo_line_3 ⟨Nat.le_of_ble_eq_true rfl, Nat.le_of_ble_eq_true rfl⟩).run (fun r_3 q_3 => ?_)
  obtain rfl := q_3
  refine zb_if_ne (tgt := 30) hx hb d_Mo_line_6 (by decide) (fun c_6 => ?_) (fun c_6 => ?_)
  · have c_6 := of_decide_eq_true c_6
    refine lv_iconst (v := iZ (1)) hx hb d_Mo_line_30 rfl ?_
    refine lv_goto (tgt := 35) hx hb d_Mo_line_31 (by decide) ?_
    refine va_put (D := (dC, dI)) (ci := 6) (v := .int (iZ 1)) (ty := .int) (C := R_Mo) (T := T_Mo) (N := 18) hx hb hts wi_Mo ty_Mo ty_Mo_ok nd_Mo hown hK hP hD hS 0 rfl rfl 0 (by decide) (hts _ t_684) (fun _ h9 => h9) rfl (by decide +kernel) rfl rfl (Nat.le_of_ble_eq_true rfl) d_Mo_line_35 (fun H locs hP hD hS => ?_)
    have hP : va_P (dC, dI) vwCl [(hm, .inr (6, [.int (iZ 1), .int (iZ w), .int (iZ h), .int (iZ mn), .ref zd, .ref zb, .ref zt, .int (iZ n), .ref zs, .ref zc, .int (iZ fx), .int (iZ fy), .int (iZ fa), .int (iZ fb), .int (iZ fc), .int (iZ qr), .int (iZ fo), .ref zo])), (zd, .inl (cI, 32768, .inl (aI Dk))), (zt, .inl (cI, 4096, .inl (aI Dt))), (zs, .inl (cI, 12, .inl (aI Sz))), (zc, .inl (cI, 32768, .inl (aI Ce))), (zo, .inl (cZ, 5200, .inl (aI Co)))] H := hP
    have hD : va_D A [(hm, .inr (6, [.int (iZ 1), .int (iZ w), .int (iZ h), .int (iZ mn), .ref zd, .ref zb, .ref zt, .int (iZ n), .ref zs, .ref zc, .int (iZ fx), .int (iZ fy), .int (iZ fa), .int (iZ fb), .int (iZ fc), .int (iZ qr), .int (iZ fo), .ref zo])), (zd, .inl (cI, 32768, .inl (aI Dk))), (zt, .inl (cI, 4096, .inl (aI Dt))), (zs, .inl (cI, 12, .inl (aI Sz))), (zc, .inl (cI, 32768, .inl (aI Ce))), (zo, .inl (cZ, 5200, .inl (aI Co)))] := hD
    refine lv_aload_n hx hb d_Mo_line_38 rfl (lv_at hl 0 rfl) ?_
    refine va_get (D := (dC, dI)) (ci := 6) (v := .int (iZ 1)) (C := R_Mo) (T := T_Mo) (N := 18) hx hb hts wi_Mo hown hK hP 0 rfl rfl 0 (by decide) (hts _ t_684) (fun _ h9 => h9) rfl d_Mo_line_39 ?_
    refine zi_if_le (tgt := 47) hx hb d_Mo_line_42 (by decide) (by omega) (by omega) (fun c_42 => ?_) (fun c_42 => ?_)
    · exact absurd c_42 (by omega)
    · refine lv_iconst (v := iZ (0)) hx hb d_Mo_line_45 rfl ?_
      exact W.iret hx hb hr (fun t ht hW => ⟨⟨_, ((1, Dk, fun k9 => [fx, fy, fa, fb, fc, qr, fo].getD k9 0)), rfl, ⟨_, rfl, Or.inr ⟨by omega, rfl, rfl⟩⟩, by rw [ht]; exact hP, va_K.moved hW.alike hK, hD⟩, hS.F ht⟩) hS.2.2 d_Mo_line_46
  · have c_6 := of_decide_eq_false c_6
    refine lv_iload_n hx hb d_Mo_line_9 rfl (lv_at hl 3 rfl) ?_
    refine lv_iload hx hb d_Mo_line_10 (lv_at hl 4 rfl) ?_
    refine vp_callSi (va_runS (As := [.int (iZ c0), .int (iZ d)]) (rest := [.ref hm]) ⟨hx, hb, hml, hown, hts⟩ (c_Model_noPlace l dC dI c0 d (by first | omega | assumption) (by first | omega | assumption) (by first | omega | assumption) (by first | omega | assumption)) (va_cwS 2 hts (gS t_765 t_766 t_6 t_767) rfl rfl rfl (by decide +kernel) ⟨Nat.le_of_ble_eq_true rfl, Nat.le_of_ble_eq_true rfl⟩) ⟨zPr_blind, zPr_pre hP hK [] [] rfl rfl⟩ rfl rfl hl.1 rfl (lv_room (Nat.le_of_ble_eq_true rfl)) d_Mo_line_12 ⟨Nat.le_of_ble_eq_true rfl, Nat.le_of_ble_eq_true rfl⟩).run (fun r_12 q_12 => ?_)
    obtain rfl := q_12
    refine zb_if_ne (tgt := 30) hx hb d_Mo_line_15 (by decide) (fun c_15 => ?_) (fun c_15 => ?_)
    · have c_15 := of_decide_eq_true c_15
      refine lv_iconst (v := iZ (1)) hx hb d_Mo_line_30 rfl ?_
      refine lv_goto (tgt := 35) hx hb d_Mo_line_31 (by decide) ?_
      refine va_put (D := (dC, dI)) (ci := 6) (v := .int (iZ 1)) (ty := .int) (C := R_Mo) (T := T_Mo) (N := 18) hx hb hts wi_Mo ty_Mo ty_Mo_ok nd_Mo hown hK hP hD hS 0 rfl rfl 0 (by decide) (hts _ t_684) (fun _ h9 => h9) rfl (by decide +kernel) rfl rfl (Nat.le_of_ble_eq_true rfl) d_Mo_line_35 (fun H locs hP hD hS => ?_)
      have hP : va_P (dC, dI) vwCl [(hm, .inr (6, [.int (iZ 1), .int (iZ w), .int (iZ h), .int (iZ mn), .ref zd, .ref zb, .ref zt, .int (iZ n), .ref zs, .ref zc, .int (iZ fx), .int (iZ fy), .int (iZ fa), .int (iZ fb), .int (iZ fc), .int (iZ qr), .int (iZ fo), .ref zo])), (zd, .inl (cI, 32768, .inl (aI Dk))), (zt, .inl (cI, 4096, .inl (aI Dt))), (zs, .inl (cI, 12, .inl (aI Sz))), (zc, .inl (cI, 32768, .inl (aI Ce))), (zo, .inl (cZ, 5200, .inl (aI Co)))] H := hP
      have hD : va_D A [(hm, .inr (6, [.int (iZ 1), .int (iZ w), .int (iZ h), .int (iZ mn), .ref zd, .ref zb, .ref zt, .int (iZ n), .ref zs, .ref zc, .int (iZ fx), .int (iZ fy), .int (iZ fa), .int (iZ fb), .int (iZ fc), .int (iZ qr), .int (iZ fo), .ref zo])), (zd, .inl (cI, 32768, .inl (aI Dk))), (zt, .inl (cI, 4096, .inl (aI Dt))), (zs, .inl (cI, 12, .inl (aI Sz))), (zc, .inl (cI, 32768, .inl (aI Ce))), (zo, .inl (cZ, 5200, .inl (aI Co)))] := hD
      refine lv_aload_n hx hb d_Mo_line_38 rfl (lv_at hl 0 rfl) ?_
      refine va_get (D := (dC, dI)) (ci := 6) (v := .int (iZ 1)) (C := R_Mo) (T := T_Mo) (N := 18) hx hb hts wi_Mo hown hK hP 0 rfl rfl 0 (by decide) (hts _ t_684) (fun _ h9 => h9) rfl d_Mo_line_39 ?_
      refine zi_if_le (tgt := 47) hx hb d_Mo_line_42 (by decide) (by omega) (by omega) (fun c_42 => ?_) (fun c_42 => ?_)
      · exact absurd c_42 (by omega)
      · refine lv_iconst (v := iZ (0)) hx hb d_Mo_line_45 rfl ?_
        exact W.iret hx hb hr (fun t ht hW => ⟨⟨_, ((1, Dk, fun k9 => [fx, fy, fa, fb, fc, qr, fo].getD k9 0)), rfl, ⟨_, rfl, Or.inr ⟨by omega, rfl, rfl⟩⟩, by rw [ht]; exact hP, va_K.moved hW.alike hK, hD⟩, hS.F ht⟩) hS.2.2 d_Mo_line_46
    · have c_15 := of_decide_eq_false c_15
      refine lv_iload hx hb d_Mo_line_18 (lv_at hl 5 rfl) ?_
      refine lv_iconst (v := iZ (1)) hx hb d_Mo_line_20 rfl ?_
      refine lv_sipush (v := iZ (200)) hx hb d_Mo_line_21 (by decide) ?_
      refine vp_callSi (va_runS (As := [.int (iZ t_), .int (iZ 1), .int (iZ 200)]) (rest := [.ref hm]) ⟨hx, hb, hml, hown, hts⟩ (c_Model_isNot l dC dI t_ 1 200 (by first | omega | assumption) (by first | omega | assumption) (by first | omega | assumption) (by first | omega | assumption) (by first | omega | assumption) (by first | omega | assumption)) (va_cwS 3 hts (gS t_771 t_772 t_6 t_773) rfl rfl rfl (by decide +kernel) ⟨Nat.le_of_ble_eq_true rfl, Nat.le_of_ble_eq_true rfl⟩) ⟨zPr_blind, zPr_pre hP hK [] [] rfl rfl⟩ rfl rfl hl.1 rfl (lv_room (Nat.le_of_ble_eq_true rfl)) d_Mo_line_24 ⟨Nat.le_of_ble_eq_true rfl, Nat.le_of_ble_eq_true rfl⟩).run (fun r_24 q_24 => ?_)
      obtain rfl := q_24
      refine zb_if_eq (tgt := 34) hx hb d_Mo_line_27 (by decide) (fun c_27 => ?_) (fun c_27 => ?_)
      · have c_27 := of_decide_eq_false c_27
        refine lv_iconst (v := iZ (0)) hx hb d_Mo_line_34 rfl ?_
        refine va_put (D := (dC, dI)) (ci := 6) (v := .int (iZ 0)) (ty := .int) (C := R_Mo) (T := T_Mo) (N := 18) hx hb hts wi_Mo ty_Mo ty_Mo_ok nd_Mo hown hK hP hD hS 0 rfl rfl 0 (by decide) (hts _ t_684) (fun _ h9 => h9) rfl (by decide +kernel) rfl rfl (Nat.le_of_ble_eq_true rfl) d_Mo_line_35 (fun H locs hP hD hS => ?_)
        have hP : va_P (dC, dI) vwCl [(hm, .inr (6, [.int (iZ 0), .int (iZ w), .int (iZ h), .int (iZ mn), .ref zd, .ref zb, .ref zt, .int (iZ n), .ref zs, .ref zc, .int (iZ fx), .int (iZ fy), .int (iZ fa), .int (iZ fb), .int (iZ fc), .int (iZ qr), .int (iZ fo), .ref zo])), (zd, .inl (cI, 32768, .inl (aI Dk))), (zt, .inl (cI, 4096, .inl (aI Dt))), (zs, .inl (cI, 12, .inl (aI Sz))), (zc, .inl (cI, 32768, .inl (aI Ce))), (zo, .inl (cZ, 5200, .inl (aI Co)))] H := hP
        have hD : va_D A [(hm, .inr (6, [.int (iZ 0), .int (iZ w), .int (iZ h), .int (iZ mn), .ref zd, .ref zb, .ref zt, .int (iZ n), .ref zs, .ref zc, .int (iZ fx), .int (iZ fy), .int (iZ fa), .int (iZ fb), .int (iZ fc), .int (iZ qr), .int (iZ fo), .ref zo])), (zd, .inl (cI, 32768, .inl (aI Dk))), (zt, .inl (cI, 4096, .inl (aI Dt))), (zs, .inl (cI, 12, .inl (aI Sz))), (zc, .inl (cI, 32768, .inl (aI Ce))), (zo, .inl (cZ, 5200, .inl (aI Co)))] := hD
        refine lv_aload_n hx hb d_Mo_line_38 rfl (lv_at hl 0 rfl) ?_
        refine va_get (D := (dC, dI)) (ci := 6) (v := .int (iZ 0)) (C := R_Mo) (T := T_Mo) (N := 18) hx hb hts wi_Mo hown hK hP 0 rfl rfl 0 (by decide) (hts _ t_684) (fun _ h9 => h9) rfl d_Mo_line_39 ?_
        refine zi_if_le (tgt := 47) hx hb d_Mo_line_42 (by decide) (by omega) (by omega) (fun c_42 => ?_) (fun c_42 => ?_)
        · refine lv_aload_n hx hb d_Mo_line_47 rfl (lv_at hl 0 rfl) ?_
          refine lv_iload_n hx hb d_Mo_line_48 rfl (lv_at hl 1 rfl) ?_
          refine lv_iload_n hx hb d_Mo_line_49 rfl (lv_at hl 2 rfl) ?_
          refine lv_iload_n hx hb d_Mo_line_50 rfl (lv_at hl 3 rfl) ?_
          refine lv_iload hx hb d_Mo_line_51 (lv_at hl 4 rfl) ?_
          refine lv_iload hx hb d_Mo_line_53 (lv_at hl 5 rfl) ?_
          refine zc_v (w1 := fun (u_55 : Unit) => [(hm, .inr (6, [.int (iZ 0), .int (iZ w), .int (iZ h), .int (iZ mn), .ref zd, .ref zb, .ref zt, .int (iZ n), .ref zs, .ref zc, .int (iZ a), .int (iZ b), .int (iZ c0), .int (iZ d), .int (iZ t_), .int (iZ qr), .int (iZ fo), .ref zo]))]) (wr := [(zd, .inl (cI, 32768, .inl (aI Dk))), (zt, .inl (cI, 4096, .inl (aI Dt))), (zs, .inl (cI, 12, .inl (aI Sz))), (zc, .inl (cI, 32768, .inl (aI Ce))), (zo, .inl (cZ, 5200, .inl (aI Co)))]) (va_runV (As := [.int (iZ a), .int (iZ b), .int (iZ c0), .int (iZ d), .int (iZ t_)]) (rest := []) ⟨hx, hb, hml, hown, hts⟩ (c_Model_at l dC dI hm zd zb zt zs zc zo 0 w h mn n fx fy fa fb fc qr fo a b c0 d t_ H.size ) (cwV 5 hts (gV t_774 t_776 s_15 t_6 t_777) rfl rfl rfl (by decide +kernel) ⟨Nat.le_of_ble_eq_true rfl, Nat.le_of_ble_eq_true rfl⟩) ⟨zPm_blind, va_recv hK hP (ci := 6) (q0 := 0) rfl rfl, zPm_pre hP hD hK [0] [] rfl rfl rfl rfl⟩ rfl rfl hl.1 rfl (lv_room (Nat.le_of_ble_eq_true rfl)) d_Mo_line_55 ⟨Nat.le_of_ble_eq_true rfl, Nat.le_of_ble_eq_true rfl⟩) hP hD hS hA [0] [1, 2, 3, 4, 5] rfl rfl rfl (by decide) (fun u_55 H locs q_55 hP hD hS => ?_)
          have hP : va_P (dC, dI) vwCl [(zd, .inl (cI, 32768, .inl (aI Dk))), (zt, .inl (cI, 4096, .inl (aI Dt))), (zs, .inl (cI, 12, .inl (aI Sz))), (zc, .inl (cI, 32768, .inl (aI Ce))), (zo, .inl (cZ, 5200, .inl (aI Co))), (hm, .inr (6, [.int (iZ 0), .int (iZ w), .int (iZ h), .int (iZ mn), .ref zd, .ref zb, .ref zt, .int (iZ n), .ref zs, .ref zc, .int (iZ a), .int (iZ b), .int (iZ c0), .int (iZ d), .int (iZ t_), .int (iZ qr), .int (iZ fo), .ref zo]))] H := hP
          have hD : va_D A [(zd, .inl (cI, 32768, .inl (aI Dk))), (zt, .inl (cI, 4096, .inl (aI Dt))), (zs, .inl (cI, 12, .inl (aI Sz))), (zc, .inl (cI, 32768, .inl (aI Ce))), (zo, .inl (cZ, 5200, .inl (aI Co))), (hm, .inr (6, [.int (iZ 0), .int (iZ w), .int (iZ h), .int (iZ mn), .ref zd, .ref zb, .ref zt, .int (iZ n), .ref zs, .ref zc, .int (iZ a), .int (iZ b), .int (iZ c0), .int (iZ d), .int (iZ t_), .int (iZ qr), .int (iZ fo), .ref zo]))] := hD
          refine lv_aload_n hx hb d_Mo_line_58 rfl (lv_at hl 0 rfl) ?_
          refine lv_iconst (v := iZ (1)) hx hb d_Mo_line_59 rfl ?_
          refine zc_i (w1 := fun (u_60 : Int → Int32) => [(hm, .inr (6, [.int (iZ 0), .int (iZ w), .int (iZ h), .int (iZ mn), .ref zd, .ref zb, .ref zt, .int (iZ n), .ref zs, .ref zc, .int (iZ a), .int (iZ b), .int (iZ c0), .int (iZ d), .int (iZ t_), .int (iZ qr), .int (iZ fo), .ref zo])), (zd, .inl (cI, 32768, .inl (aI u_60))), (zt, .inl (cI, 4096, .inl (aI Dt))), (zs, .inl (cI, 12, .inl (aI Sz))), (zc, .inl (cI, 32768, .inl (aI Ce))), (zo, .inl (cZ, 5200, .inl (aI Co)))]) (wr := []) (va_runV (As := [.int (iZ 1)]) (rest := []) ⟨hx, hb, hml, hown, hts⟩ (c_Model_draw l dC dI hm zd zb zt zs zc zo 0 w h mn n a b c0 d t_ qr fo cI cZ Dt Sz Ce Co (fun _ => iZ 0) dr (fun _ => false) 0 0 0 (lnD a b c0 d t_) Dk pic 1 H.size (w1) (w2) (h1) (h2) (mn1) (mn2) (hM) (hO) (by omega) (by omega) (by omega) (by omega) (n1) (n2) (hT) (by omega) (by omega) (fun z9 => absurd z9 (by omega)) (fun z9 => absurd z9 (by omega)) (fun _ => by omega) (fun _ => rfl) (fun z9 => absurd z9 (by omega)) (fun z9 => absurd z9 (by omega)) (fun z9 => absurd z9 (by omega)) (fun z9 => absurd z9 (by omega)) (fun z9 => absurd z9 (by omega)) (fun z9 => absurd z9 (by omega)) (fun z9 => absurd z9 (by omega)) (fun z9 => absurd z9 (by omega)) (fun z9 => absurd z9 (by omega))) (cwV 1 hts (gV t_778 t_780 s_16 t_6 t_781) rfl rfl rfl (by decide +kernel) ⟨Nat.le_of_ble_eq_true rfl, Nat.le_of_ble_eq_true rfl⟩) ⟨zPm_blind, va_recv hK hP (ci := 6) (q0 := 5) rfl rfl, zPm_pre hP hD hK [5, 0, 1, 2, 3, 4] [0, 1] rfl rfl rfl rfl⟩ rfl rfl hl.1 rfl (lv_room (Nat.le_of_ble_eq_true rfl)) d_Mo_line_60 ⟨Nat.le_of_ble_eq_true rfl, Nat.le_of_ble_eq_true rfl⟩) hP hD hS hA [5, 0, 1, 2, 3, 4] [] rfl rfl rfl (by decide) (fun r_60 u_60 H locs q_60 hP hD hS => ?_)
          have hP : va_P (dC, dI) vwCl [(hm, .inr (6, [.int (iZ 0), .int (iZ w), .int (iZ h), .int (iZ mn), .ref zd, .ref zb, .ref zt, .int (iZ n), .ref zs, .ref zc, .int (iZ a), .int (iZ b), .int (iZ c0), .int (iZ d), .int (iZ t_), .int (iZ qr), .int (iZ fo), .ref zo])), (zd, .inl (cI, 32768, .inl (aI u_60))), (zt, .inl (cI, 4096, .inl (aI Dt))), (zs, .inl (cI, 12, .inl (aI Sz))), (zc, .inl (cI, 32768, .inl (aI Ce))), (zo, .inl (cZ, 5200, .inl (aI Co)))] H := hP
          have hD : va_D A [(hm, .inr (6, [.int (iZ 0), .int (iZ w), .int (iZ h), .int (iZ mn), .ref zd, .ref zb, .ref zt, .int (iZ n), .ref zs, .ref zc, .int (iZ a), .int (iZ b), .int (iZ c0), .int (iZ d), .int (iZ t_), .int (iZ qr), .int (iZ fo), .ref zo])), (zd, .inl (cI, 32768, .inl (aI u_60))), (zt, .inl (cI, 4096, .inl (aI Dt))), (zs, .inl (cI, 12, .inl (aI Sz))), (zc, .inl (cI, 32768, .inl (aI Ce))), (zo, .inl (cZ, 5200, .inl (aI Co)))] := hD
          obtain ⟨rfl, q_60⟩ := q_60
          exact W.iret hx hb hr (fun t ht hW => ⟨⟨_, ((0, u_60, fun k9 => [a, b, c0, d, t_, qr, fo].getD k9 0)), rfl, ⟨_, rfl, Or.inl ⟨by omega, rfl, rfl, q_60⟩⟩, by rw [ht]; exact hP, va_K.moved hW.alike hK, hD⟩, hS.F ht⟩) hS.2.2 d_Mo_line_63
        · exact absurd c_42 (by omega)
      · have c_27 := of_decide_eq_true c_27
        refine lv_iconst (v := iZ (1)) hx hb d_Mo_line_30 rfl ?_
        refine lv_goto (tgt := 35) hx hb d_Mo_line_31 (by decide) ?_
        refine va_put (D := (dC, dI)) (ci := 6) (v := .int (iZ 1)) (ty := .int) (C := R_Mo) (T := T_Mo) (N := 18) hx hb hts wi_Mo ty_Mo ty_Mo_ok nd_Mo hown hK hP hD hS 0 rfl rfl 0 (by decide) (hts _ t_684) (fun _ h9 => h9) rfl (by decide +kernel) rfl rfl (Nat.le_of_ble_eq_true rfl) d_Mo_line_35 (fun H locs hP hD hS => ?_)
        have hP : va_P (dC, dI) vwCl [(hm, .inr (6, [.int (iZ 1), .int (iZ w), .int (iZ h), .int (iZ mn), .ref zd, .ref zb, .ref zt, .int (iZ n), .ref zs, .ref zc, .int (iZ fx), .int (iZ fy), .int (iZ fa), .int (iZ fb), .int (iZ fc), .int (iZ qr), .int (iZ fo), .ref zo])), (zd, .inl (cI, 32768, .inl (aI Dk))), (zt, .inl (cI, 4096, .inl (aI Dt))), (zs, .inl (cI, 12, .inl (aI Sz))), (zc, .inl (cI, 32768, .inl (aI Ce))), (zo, .inl (cZ, 5200, .inl (aI Co)))] H := hP
        have hD : va_D A [(hm, .inr (6, [.int (iZ 1), .int (iZ w), .int (iZ h), .int (iZ mn), .ref zd, .ref zb, .ref zt, .int (iZ n), .ref zs, .ref zc, .int (iZ fx), .int (iZ fy), .int (iZ fa), .int (iZ fb), .int (iZ fc), .int (iZ qr), .int (iZ fo), .ref zo])), (zd, .inl (cI, 32768, .inl (aI Dk))), (zt, .inl (cI, 4096, .inl (aI Dt))), (zs, .inl (cI, 12, .inl (aI Sz))), (zc, .inl (cI, 32768, .inl (aI Ce))), (zo, .inl (cZ, 5200, .inl (aI Co)))] := hD
        refine lv_aload_n hx hb d_Mo_line_38 rfl (lv_at hl 0 rfl) ?_
        refine va_get (D := (dC, dI)) (ci := 6) (v := .int (iZ 1)) (C := R_Mo) (T := T_Mo) (N := 18) hx hb hts wi_Mo hown hK hP 0 rfl rfl 0 (by decide) (hts _ t_684) (fun _ h9 => h9) rfl d_Mo_line_39 ?_
        refine zi_if_le (tgt := 47) hx hb d_Mo_line_42 (by decide) (by omega) (by omega) (fun c_42 => ?_) (fun c_42 => ?_)
        · exact absurd c_42 (by omega)
        · refine lv_iconst (v := iZ (0)) hx hb d_Mo_line_45 rfl ?_
          exact W.iret hx hb hr (fun t ht hW => ⟨⟨_, ((1, Dk, fun k9 => [fx, fy, fa, fb, fc, qr, fo].getD k9 0)), rfl, ⟨_, rfl, Or.inr ⟨by omega, rfl, rfl⟩⟩, by rw [ht]; exact hP, va_K.moved hW.alike hK, hD⟩, hS.F ht⟩) hS.2.2 d_Mo_line_46
theorem d_Mo_text_0 : decode c_yMo_text 0 = .ok (.aload_n 0, 1) := by decide +kernel
theorem d_Mo_text_1 : decode c_yMo_text 1 = .ok (.iload_n 1, 1) := by decide +kernel
theorem d_Mo_text_2 : decode c_yMo_text 2 = .ok (.iload_n 2, 1) := by decide +kernel
theorem d_Mo_text_3 : decode c_yMo_text 3 = .ok (.invokestatic 124, 3) := by decide +kernel
theorem d_Mo_text_6 : decode c_yMo_text 6 = .ok (.ifCond .ne 62, 3) := by decide +kernel
theorem d_Mo_text_9 : decode c_yMo_text 9 = .ok (.iload 5, 2) := by decide +kernel
theorem d_Mo_text_11 : decode c_yMo_text 11 = .ok (.iconst 0, 1) := by decide +kernel
theorem d_Mo_text_12 : decode c_yMo_text 12 = .ok (.iconst 3, 1) := by decide +kernel
theorem d_Mo_text_13 : decode c_yMo_text 13 = .ok (.invokestatic 121, 3) := by decide +kernel
theorem d_Mo_text_16 : decode c_yMo_text 16 = .ok (.ifCond .ne 52, 3) := by decide +kernel
theorem d_Mo_text_19 : decode c_yMo_text 19 = .ok (.iload_n 3, 1) := by decide +kernel
theorem d_Mo_text_20 : decode c_yMo_text 20 = .ok (.iconst 0, 1) := by decide +kernel
theorem d_Mo_text_21 : decode c_yMo_text 21 = .ok (.iconst 3, 1) := by decide +kernel
theorem d_Mo_text_22 : decode c_yMo_text 22 = .ok (.invokestatic 121, 3) := by decide +kernel
theorem d_Mo_text_25 : decode c_yMo_text 25 = .ok (.ifCond .ne 43, 3) := by decide +kernel
theorem d_Mo_text_28 : decode c_yMo_text 28 = .ok (.iload 4, 2) := by decide +kernel
theorem d_Mo_text_30 : decode c_yMo_text 30 = .ok (.iconst 0, 1) := by decide +kernel
theorem d_Mo_text_31 : decode c_yMo_text 31 = .ok (.sipush 255, 3) := by decide +kernel
theorem d_Mo_text_34 : decode c_yMo_text 34 = .ok (.invokestatic 121, 3) := by decide +kernel
theorem d_Mo_text_37 : decode c_yMo_text 37 = .ok (.ifCond .ne 31, 3) := by decide +kernel
theorem d_Mo_text_40 : decode c_yMo_text 40 = .ok (.iload 4, 2) := by decide +kernel
theorem d_Mo_text_42 : decode c_yMo_text 42 = .ok (.bipush 16, 2) := by decide +kernel
theorem d_Mo_text_44 : decode c_yMo_text 44 = .ok (.idiv, 1) := by decide +kernel
theorem d_Mo_text_45 : decode c_yMo_text 45 = .ok (.iconst 1, 1) := by decide +kernel
theorem d_Mo_text_46 : decode c_yMo_text 46 = .ok (.bipush 10, 2) := by decide +kernel
theorem d_Mo_text_48 : decode c_yMo_text 48 = .ok (.invokestatic 121, 3) := by decide +kernel
theorem d_Mo_text_51 : decode c_yMo_text 51 = .ok (.ifCond .ne 17, 3) := by decide +kernel
theorem d_Mo_text_54 : decode c_yMo_text 54 = .ok (.iload 4, 2) := by decide +kernel
theorem d_Mo_text_56 : decode c_yMo_text 56 = .ok (.bipush 16, 2) := by decide +kernel
theorem d_Mo_text_58 : decode c_yMo_text 58 = .ok (.irem, 1) := by decide +kernel
theorem d_Mo_text_59 : decode c_yMo_text 59 = .ok (.iconst 1, 1) := by decide +kernel
theorem d_Mo_text_60 : decode c_yMo_text 60 = .ok (.bipush 10, 2) := by decide +kernel
theorem d_Mo_text_62 : decode c_yMo_text 62 = .ok (.invokestatic 121, 3) := by decide +kernel
theorem d_Mo_text_65 : decode c_yMo_text 65 = .ok (.ifCond .eq 7, 3) := by decide +kernel
theorem d_Mo_text_68 : decode c_yMo_text 68 = .ok (.iconst 1, 1) := by decide +kernel
theorem d_Mo_text_69 : decode c_yMo_text 69 = .ok (.goto 4, 3) := by decide +kernel
theorem d_Mo_text_72 : decode c_yMo_text 72 = .ok (.iconst 0, 1) := by decide +kernel
theorem d_Mo_text_73 : decode c_yMo_text 73 = .ok (.putfield 37, 3) := by decide +kernel
theorem d_Mo_text_76 : decode c_yMo_text 76 = .ok (.aload_n 0, 1) := by decide +kernel
theorem d_Mo_text_77 : decode c_yMo_text 77 = .ok (.getfield 37, 3) := by decide +kernel
theorem d_Mo_text_80 : decode c_yMo_text 80 = .ok (.ifCond .le 5, 3) := by decide +kernel
theorem d_Mo_text_83 : decode c_yMo_text 83 = .ok (.iconst 0, 1) := by decide +kernel
theorem d_Mo_text_84 : decode c_yMo_text 84 = .ok (.ireturn, 1) := by decide +kernel
theorem d_Mo_text_85 : decode c_yMo_text 85 = .ok (.aload_n 0, 1) := by decide +kernel
theorem d_Mo_text_86 : decode c_yMo_text 86 = .ok (.iload_n 1, 1) := by decide +kernel
theorem d_Mo_text_87 : decode c_yMo_text 87 = .ok (.iload_n 2, 1) := by decide +kernel
theorem d_Mo_text_88 : decode c_yMo_text 88 = .ok (.iload 4, 2) := by decide +kernel
theorem d_Mo_text_90 : decode c_yMo_text 90 = .ok (.bipush 16, 2) := by decide +kernel
theorem d_Mo_text_92 : decode c_yMo_text 92 = .ok (.idiv, 1) := by decide +kernel
theorem d_Mo_text_93 : decode c_yMo_text 93 = .ok (.iload 4, 2) := by decide +kernel
theorem d_Mo_text_95 : decode c_yMo_text 95 = .ok (.bipush 16, 2) := by decide +kernel
theorem d_Mo_text_97 : decode c_yMo_text 97 = .ok (.irem, 1) := by decide +kernel
theorem d_Mo_text_98 : decode c_yMo_text 98 = .ok (.iconst 0, 1) := by decide +kernel
theorem d_Mo_text_99 : decode c_yMo_text 99 = .ok (.invokevirtual 130, 3) := by decide +kernel
theorem d_Mo_text_102 : decode c_yMo_text 102 = .ok (.aload_n 0, 1) := by decide +kernel
theorem d_Mo_text_103 : decode c_yMo_text 103 = .ok (.iload_n 3, 1) := by decide +kernel
theorem d_Mo_text_104 : decode c_yMo_text 104 = .ok (.putfield 78, 3) := by decide +kernel
theorem d_Mo_text_107 : decode c_yMo_text 107 = .ok (.aload_n 0, 1) := by decide +kernel
theorem d_Mo_text_108 : decode c_yMo_text 108 = .ok (.iload 5, 2) := by decide +kernel
theorem d_Mo_text_110 : decode c_yMo_text 110 = .ok (.putfield 75, 3) := by decide +kernel
theorem d_Mo_text_113 : decode c_yMo_text 113 = .ok (.aload_n 0, 1) := by decide +kernel
theorem d_Mo_text_114 : decode c_yMo_text 114 = .ok (.iconst 3, 1) := by decide +kernel
theorem d_Mo_text_115 : decode c_yMo_text 115 = .ok (.invokevirtual 134, 3) := by decide +kernel
theorem d_Mo_text_118 : decode c_yMo_text 118 = .ok (.ireturn, 1) := by decide +kernel
set_option maxHeartbeats 4000000 in
set_option maxRecDepth 100000 in
theorem c_Model_text (l : Launch) (dC : Nat → ClassId) (dI : Nat → Nat → Nat) (hm zd zb zt zs zc zo : Nat) (tw w h mn n fx fy fa fb fc qr fo : Int) (cI cZ : ClassId) (Dt Sz Ce Co : Int → Int32) (dr : Int → Int) (Dk : Int → Int32) (pic : Int → Int → Bool) (X : Int → Int32) (fw fh fg x y f sc aq : Int) (sz : Nat) (w1 : 1 ≤ w) (w2 : w ≤ 1024) (h1 : 1 ≤ h) (h2 : h ≤ 1024) (mn1 : 0 ≤ mn) (mn2 : mn ≤ 2) (hM : RepM Dk pic) (hO : Off w h pic) (n1 : 0 ≤ n) (n2 : n ≤ 4096) (hT : RepT Dt n dr) (hz : 0 ≤ f ∧ f ≤ 3 → 1 ≤ fw ∧ fw ≤ 32 ∧ 1 ≤ fh ∧ fh ≤ 32 ∧ 0 ≤ fg ∧ fg ≤ 32 ∧ Sz (3 * f) = iZ fw ∧ Sz (3 * f + 1) = iZ fh ∧ Sz (3 * f + 2) = iZ fg ∧ ∀ k : Int, 0 ≤ k → k < 8192 → Ce (8192 * f + k) = X k) (x1 : -2147483648 ≤ x) (y1 : -2147483648 ≤ y) (f1 : -2147483648 ≤ f) (sc1 : -2147483648 ≤ sc) (aq1 : -2147483648 ≤ aq) (x2 : x ≤ 2147483647) (y2 : y ≤ 2147483647) (f2 : f ≤ 2147483647) (sc2 : sc ≤ 2147483647) (aq2 : aq ≤ 2147483647) : Met l y_Mo_text w_Mo_text ({ frames := 4, cells := 0, slots := 0, locals := 106 }) (va_Pc [.ref hm, .int (iZ x), .int (iZ y), .int (iZ f), .int (iZ sc), .int (iZ aq)] (zPm (dC, dI) vwCl [(hm, .inr (6, [.int (iZ tw), .int (iZ w), .int (iZ h), .int (iZ mn), .ref zd, .ref zb, .ref zt, .int (iZ n), .ref zs, .ref zc, .int (iZ fx), .int (iZ fy), .int (iZ fa), .int (iZ fb), .int (iZ fc), .int (iZ qr), .int (iZ fo), .ref zo])), (zd, .inl (cI, 32768, .inl (aI Dk))), (zt, .inl (cI, 4096, .inl (aI Dt))), (zs, .inl (cI, 12, .inl (aI Sz))), (zc, .inl (cI, 32768, .inl (aI Ce))), (zo, .inl (cZ, 5200, .inl (aI Co)))] [(cI, .int), (cZ, .boolean)] sz)) (va_Qi (fun (r : Int32) (u : Int × (Int → Int32) × (Nat → Int)) => ∃ z : Int, r = iZ z ∧ (((-4096 ≤ x ∧ x ≤ 4096 ∧ -4096 ≤ y ∧ y ≤ 4096 ∧ 0 ≤ aq ∧ aq ≤ 3 ∧ 0 ≤ f ∧ f ≤ 3 ∧ 0 ≤ sc ∧ sc ≤ 255 ∧ 1 ≤ sc / 16 ∧ sc / 16 ≤ 10 ∧ 1 ≤ sc % 16 ∧ sc % 16 ≤ 10) ∧ u.1 = 0 ∧ z = cnt w h (txB X dr n fw fh fg (sc / 16) (sc % 16) aq x y) ∧ RepM u.2.1 (drw mn (fun px py => onB w h px py && txB X dr n fw fh fg (sc / 16) (sc % 16) aq x y px py) pic)) ∨ (¬ (-4096 ≤ x ∧ x ≤ 4096 ∧ -4096 ≤ y ∧ y ≤ 4096 ∧ 0 ≤ aq ∧ aq ≤ 3 ∧ 0 ≤ f ∧ f ≤ 3 ∧ 0 ≤ sc ∧ sc ≤ 255 ∧ 1 ≤ sc / 16 ∧ sc / 16 ≤ 10 ∧ 1 ≤ sc % 16 ∧ sc % 16 ≤ 10) ∧ u.1 = 1 ∧ u.2.1 = Dk))) (fun u => zB (dC, dI) vwCl [(cI, .int), (cZ, .boolean)] (va_A [(hm, .inr (6, [.int (iZ tw), .int (iZ w), .int (iZ h), .int (iZ mn), .ref zd, .ref zb, .ref zt, .int (iZ n), .ref zs, .ref zc, .int (iZ fx), .int (iZ fy), .int (iZ fa), .int (iZ fb), .int (iZ fc), .int (iZ qr), .int (iZ fo), .ref zo])), (zd, .inl (cI, 32768, .inl (aI Dk))), (zt, .inl (cI, 4096, .inl (aI Dt))), (zs, .inl (cI, 12, .inl (aI Sz))), (zc, .inl (cI, 32768, .inl (aI Ce))), (zo, .inl (cZ, 5200, .inl (aI Co)))] sz) [(hm, .inr (6, [.int (iZ u.1), .int (iZ w), .int (iZ h), .int (iZ mn), .ref zd, .ref zb, .ref zt, .int (iZ n), .ref zs, .ref zc, .int (iZ ((u.2.2 0))), .int (iZ ((u.2.2 1))), .int (iZ ((u.2.2 2))), .int (iZ ((u.2.2 3))), .int (iZ ((u.2.2 4))), .int (iZ ((u.2.2 5))), .int (iZ ((u.2.2 6))), .ref zo])), (zd, .inl (cI, 32768, .inl (aI u.2.1))), (zt, .inl (cI, 4096, .inl (aI Dt))), (zs, .inl (cI, 12, .inl (aI Sz))), (zc, .inl (cI, 32768, .inl (aI Ce))), (zo, .inl (cZ, 5200, .inl (aI Co)))]) (va_A [(hm, .inr (6, [.int (iZ tw), .int (iZ w), .int (iZ h), .int (iZ mn), .ref zd, .ref zb, .ref zt, .int (iZ n), .ref zs, .ref zc, .int (iZ fx), .int (iZ fy), .int (iZ fa), .int (iZ fb), .int (iZ fc), .int (iZ qr), .int (iZ fo), .ref zo])), (zd, .inl (cI, 32768, .inl (aI Dk))), (zt, .inl (cI, 4096, .inl (aI Dt))), (zs, .inl (cI, 12, .inl (aI Sz))), (zc, .inl (cI, 32768, .inl (aI Ce))), (zo, .inl (cZ, 5200, .inl (aI Co)))] sz)) 0 0 (va_A [(hm, .inr (6, [.int (iZ tw), .int (iZ w), .int (iZ h), .int (iZ mn), .ref zd, .ref zb, .ref zt, .int (iZ n), .ref zs, .ref zc, .int (iZ fx), .int (iZ fy), .int (iZ fa), .int (iZ fb), .int (iZ fc), .int (iZ qr), .int (iZ fo), .ref zo])), (zd, .inl (cI, 32768, .inl (aI Dk))), (zt, .inl (cI, 4096, .inl (aI Dt))), (zs, .inl (cI, 12, .inl (aI Sz))), (zc, .inl (cI, 32768, .inl (aI Ce))), (zo, .inl (cZ, 5200, .inl (aI Co)))] sz) := by
  refine Met.ofW (cc := c_yMo_text) (maxL := 6) (ret := (some .int)) (by decide) rfl ?_
  intro p e s m args below meth c s₁ B hml hv
  obtain ⟨rfl, hsz, hP, hK, hD0⟩ := hv
  have hx := B.exec
  have hb := B.bytes
  have hr := B.returns
  have hts0 := atoms_spec (ws := w_Mo_text) B.pre
  have hts : ∀ w ∈ gT, w.before _ s = true := fun w h => hts0 w (List.mem_cons_of_mem _ h)
  have hown : s.vm.findClass R_Mo = some m.cls := findClass_of_methodNamed B.named
  have hlocks := B.notSynchronized
  subst hsz
  have hD := hD0.self (sz := s.heap.size)
  generalize hAe : va_A [(hm, .inr (6, [.int (iZ tw), .int (iZ w), .int (iZ h), .int (iZ mn), .ref zd, .ref zb, .ref zt, .int (iZ n), .ref zs, .ref zc, .int (iZ fx), .int (iZ fy), .int (iZ fa), .int (iZ fb), .int (iZ fc), .int (iZ qr), .int (iZ fo), .ref zo])), (zd, .inl (cI, 32768, .inl (aI Dk))), (zt, .inl (cI, 4096, .inl (aI Dt))), (zs, .inl (cI, 12, .inl (aI Sz))), (zc, .inl (cI, 32768, .inl (aI Ce))), (zo, .inl (cZ, 5200, .inl (aI Co)))] s.heap.size = A at hD ⊢
  have hA : ∀ q : Nat, s.heap.size ≤ q → A q := fun q h => by rw [← hAe]; exact Or.inr h
  obtain ⟨H, hH⟩ : ∃ H, s.heap = H := ⟨_, rfl⟩
  have hS : va_S A s.heap H [] := by rw [← hH]; exact va_S.rf
  rw [hH] at hP
  rw [hH]
  have hl := lv_entry ([.ref hm, .int (iZ x), .int (iZ y), .int (iZ f), .int (iZ sc), .int (iZ aq)]) (n := 6) (Nat.le_of_ble_eq_true rfl)
  rw [lg_entry_eq]
  generalize (lg_sl ([.ref hm, .int (iZ x), .int (iZ y), .int (iZ f), .int (iZ sc), .int (iZ aq)]) ++ List.replicate (6 - (lg_sl ([.ref hm, .int (iZ x), .int (iZ y), .int (iZ f), .int (iZ sc), .int (iZ aq)])).length) Slot.unset).toArray = ls at hl ⊢
  have hl : lv_has ls 6 [(0, .ref hm), (1, .int (iZ x)), (2, .int (iZ y)), (3, .int (iZ f)), (4, .int (iZ sc)), (5, .int (iZ aq))] := hl
  refine lv_aload_n hx hb d_Mo_text_0 rfl (lv_at hl 0 rfl) ?_
  refine lv_iload_n hx hb d_Mo_text_1 rfl (lv_at hl 1 rfl) ?_
  refine lv_iload_n hx hb d_Mo_text_2 rfl (lv_at hl 2 rfl) ?_
  refine vp_callSi (va_runS (As := [.int (iZ x), .int (iZ y)]) (rest := [.ref hm]) ⟨hx, hb, hml, hown, hts⟩ (c_Model_noPlace l dC dI x y (by first | omega | assumption) (by first | omega | assumption) (by first | omega | assumption) (by first | omega | assumption)) (va_cwS 2 hts (gS t_765 t_766 t_6 t_767) rfl rfl rfl (by decide +kernel) ⟨Nat.le_of_ble_eq_true rfl, Nat.le_of_ble_eq_true rfl⟩) ⟨zPr_blind, zPr_pre hP hK [] [] rfl rfl⟩ rfl rfl hl.1 rfl (lv_room (Nat.le_of_ble_eq_true rfl)) d_Mo_text_3 ⟨Nat.le_of_ble_eq_true rfl, Nat.le_of_ble_eq_true rfl⟩).run (fun r_3 q_3 => ?_)
  obtain rfl := q_3
  refine zb_if_ne (tgt := 68) hx hb d_Mo_text_6 (by decide) (fun c_6 => ?_) (fun c_6 => ?_)
  · have c_6 := of_decide_eq_true c_6
    refine lv_iconst (v := iZ (1)) hx hb d_Mo_text_68 rfl ?_
    refine lv_goto (tgt := 73) hx hb d_Mo_text_69 (by decide) ?_
    refine va_put (D := (dC, dI)) (ci := 6) (v := .int (iZ 1)) (ty := .int) (C := R_Mo) (T := T_Mo) (N := 18) hx hb hts wi_Mo ty_Mo ty_Mo_ok nd_Mo hown hK hP hD hS 0 rfl rfl 0 (by decide) (hts _ t_684) (fun _ h9 => h9) rfl (by decide +kernel) rfl rfl (Nat.le_of_ble_eq_true rfl) d_Mo_text_73 (fun H locs hP hD hS => ?_)
    have hP : va_P (dC, dI) vwCl [(hm, .inr (6, [.int (iZ 1), .int (iZ w), .int (iZ h), .int (iZ mn), .ref zd, .ref zb, .ref zt, .int (iZ n), .ref zs, .ref zc, .int (iZ fx), .int (iZ fy), .int (iZ fa), .int (iZ fb), .int (iZ fc), .int (iZ qr), .int (iZ fo), .ref zo])), (zd, .inl (cI, 32768, .inl (aI Dk))), (zt, .inl (cI, 4096, .inl (aI Dt))), (zs, .inl (cI, 12, .inl (aI Sz))), (zc, .inl (cI, 32768, .inl (aI Ce))), (zo, .inl (cZ, 5200, .inl (aI Co)))] H := hP
    have hD : va_D A [(hm, .inr (6, [.int (iZ 1), .int (iZ w), .int (iZ h), .int (iZ mn), .ref zd, .ref zb, .ref zt, .int (iZ n), .ref zs, .ref zc, .int (iZ fx), .int (iZ fy), .int (iZ fa), .int (iZ fb), .int (iZ fc), .int (iZ qr), .int (iZ fo), .ref zo])), (zd, .inl (cI, 32768, .inl (aI Dk))), (zt, .inl (cI, 4096, .inl (aI Dt))), (zs, .inl (cI, 12, .inl (aI Sz))), (zc, .inl (cI, 32768, .inl (aI Ce))), (zo, .inl (cZ, 5200, .inl (aI Co)))] := hD
    refine lv_aload_n hx hb d_Mo_text_76 rfl (lv_at hl 0 rfl) ?_
    refine va_get (D := (dC, dI)) (ci := 6) (v := .int (iZ 1)) (C := R_Mo) (T := T_Mo) (N := 18) hx hb hts wi_Mo hown hK hP 0 rfl rfl 0 (by decide) (hts _ t_684) (fun _ h9 => h9) rfl d_Mo_text_77 ?_
    refine zi_if_le (tgt := 85) hx hb d_Mo_text_80 (by decide) (by omega) (by omega) (fun c_80 => ?_) (fun c_80 => ?_)
    · exact absurd c_80 (by omega)
    · refine lv_iconst (v := iZ (0)) hx hb d_Mo_text_83 rfl ?_
      exact W.iret hx hb hr (fun t ht hW => ⟨⟨_, ((1, Dk, fun k9 => [fx, fy, fa, fb, fc, qr, fo].getD k9 0)), rfl, ⟨_, rfl, Or.inr ⟨by omega, rfl, rfl⟩⟩, by rw [ht]; exact hP, va_K.moved hW.alike hK, hD⟩, hS.F ht⟩) hS.2.2 d_Mo_text_84
  · have c_6 := of_decide_eq_false c_6
    refine lv_iload hx hb d_Mo_text_9 (lv_at hl 5 rfl) ?_
    refine lv_iconst (v := iZ (0)) hx hb d_Mo_text_11 rfl ?_
    refine lv_iconst (v := iZ (3)) hx hb d_Mo_text_12 rfl ?_
    refine vp_callSi (va_runS (As := [.int (iZ aq), .int (iZ 0), .int (iZ 3)]) (rest := [.ref hm]) ⟨hx, hb, hml, hown, hts⟩ (c_Model_isNot l dC dI aq 0 3 (by first | omega | assumption) (by first | omega | assumption) (by first | omega | assumption) (by first | omega | assumption) (by first | omega | assumption) (by first | omega | assumption)) (va_cwS 3 hts (gS t_771 t_772 t_6 t_773) rfl rfl rfl (by decide +kernel) ⟨Nat.le_of_ble_eq_true rfl, Nat.le_of_ble_eq_true rfl⟩) ⟨zPr_blind, zPr_pre hP hK [] [] rfl rfl⟩ rfl rfl hl.1 rfl (lv_room (Nat.le_of_ble_eq_true rfl)) d_Mo_text_13 ⟨Nat.le_of_ble_eq_true rfl, Nat.le_of_ble_eq_true rfl⟩).run (fun r_13 q_13 => ?_)
    obtain rfl := q_13
    refine zb_if_ne (tgt := 68) hx hb d_Mo_text_16 (by decide) (fun c_16 => ?_) (fun c_16 => ?_)
    · have c_16 := of_decide_eq_true c_16
      refine lv_iconst (v := iZ (1)) hx hb d_Mo_text_68 rfl ?_
      refine lv_goto (tgt := 73) hx hb d_Mo_text_69 (by decide) ?_
      refine va_put (D := (dC, dI)) (ci := 6) (v := .int (iZ 1)) (ty := .int) (C := R_Mo) (T := T_Mo) (N := 18) hx hb hts wi_Mo ty_Mo ty_Mo_ok nd_Mo hown hK hP hD hS 0 rfl rfl 0 (by decide) (hts _ t_684) (fun _ h9 => h9) rfl (by decide +kernel) rfl rfl (Nat.le_of_ble_eq_true rfl) d_Mo_text_73 (fun H locs hP hD hS => ?_)
      have hP : va_P (dC, dI) vwCl [(hm, .inr (6, [.int (iZ 1), .int (iZ w), .int (iZ h), .int (iZ mn), .ref zd, .ref zb, .ref zt, .int (iZ n), .ref zs, .ref zc, .int (iZ fx), .int (iZ fy), .int (iZ fa), .int (iZ fb), .int (iZ fc), .int (iZ qr), .int (iZ fo), .ref zo])), (zd, .inl (cI, 32768, .inl (aI Dk))), (zt, .inl (cI, 4096, .inl (aI Dt))), (zs, .inl (cI, 12, .inl (aI Sz))), (zc, .inl (cI, 32768, .inl (aI Ce))), (zo, .inl (cZ, 5200, .inl (aI Co)))] H := hP
      have hD : va_D A [(hm, .inr (6, [.int (iZ 1), .int (iZ w), .int (iZ h), .int (iZ mn), .ref zd, .ref zb, .ref zt, .int (iZ n), .ref zs, .ref zc, .int (iZ fx), .int (iZ fy), .int (iZ fa), .int (iZ fb), .int (iZ fc), .int (iZ qr), .int (iZ fo), .ref zo])), (zd, .inl (cI, 32768, .inl (aI Dk))), (zt, .inl (cI, 4096, .inl (aI Dt))), (zs, .inl (cI, 12, .inl (aI Sz))), (zc, .inl (cI, 32768, .inl (aI Ce))), (zo, .inl (cZ, 5200, .inl (aI Co)))] := hD
      refine lv_aload_n hx hb d_Mo_text_76 rfl (lv_at hl 0 rfl) ?_
      refine va_get (D := (dC, dI)) (ci := 6) (v := .int (iZ 1)) (C := R_Mo) (T := T_Mo) (N := 18) hx hb hts wi_Mo hown hK hP 0 rfl rfl 0 (by decide) (hts _ t_684) (fun _ h9 => h9) rfl d_Mo_text_77 ?_
      refine zi_if_le (tgt := 85) hx hb d_Mo_text_80 (by decide) (by omega) (by omega) (fun c_80 => ?_) (fun c_80 => ?_)
      · exact absurd c_80 (by omega)
      · refine lv_iconst (v := iZ (0)) hx hb d_Mo_text_83 rfl ?_
        exact W.iret hx hb hr (fun t ht hW => ⟨⟨_, ((1, Dk, fun k9 => [fx, fy, fa, fb, fc, qr, fo].getD k9 0)), rfl, ⟨_, rfl, Or.inr ⟨by omega, rfl, rfl⟩⟩, by rw [ht]; exact hP, va_K.moved hW.alike hK, hD⟩, hS.F ht⟩) hS.2.2 d_Mo_text_84
    · have c_16 := of_decide_eq_false c_16
      refine lv_iload_n hx hb d_Mo_text_19 rfl (lv_at hl 3 rfl) ?_
      refine lv_iconst (v := iZ (0)) hx hb d_Mo_text_20 rfl ?_
      refine lv_iconst (v := iZ (3)) hx hb d_Mo_text_21 rfl ?_
      refine vp_callSi (va_runS (As := [.int (iZ f), .int (iZ 0), .int (iZ 3)]) (rest := [.ref hm]) ⟨hx, hb, hml, hown, hts⟩ (c_Model_isNot l dC dI f 0 3 (by first | omega | assumption) (by first | omega | assumption) (by first | omega | assumption) (by first | omega | assumption) (by first | omega | assumption) (by first | omega | assumption)) (va_cwS 3 hts (gS t_771 t_772 t_6 t_773) rfl rfl rfl (by decide +kernel) ⟨Nat.le_of_ble_eq_true rfl, Nat.le_of_ble_eq_true rfl⟩) ⟨zPr_blind, zPr_pre hP hK [] [] rfl rfl⟩ rfl rfl hl.1 rfl (lv_room (Nat.le_of_ble_eq_true rfl)) d_Mo_text_22 ⟨Nat.le_of_ble_eq_true rfl, Nat.le_of_ble_eq_true rfl⟩).run (fun r_22 q_22 => ?_)
      obtain rfl := q_22
      refine zb_if_ne (tgt := 68) hx hb d_Mo_text_25 (by decide) (fun c_25 => ?_) (fun c_25 => ?_)
      · have c_25 := of_decide_eq_true c_25
        refine lv_iconst (v := iZ (1)) hx hb d_Mo_text_68 rfl ?_
        refine lv_goto (tgt := 73) hx hb d_Mo_text_69 (by decide) ?_
        refine va_put (D := (dC, dI)) (ci := 6) (v := .int (iZ 1)) (ty := .int) (C := R_Mo) (T := T_Mo) (N := 18) hx hb hts wi_Mo ty_Mo ty_Mo_ok nd_Mo hown hK hP hD hS 0 rfl rfl 0 (by decide) (hts _ t_684) (fun _ h9 => h9) rfl (by decide +kernel) rfl rfl (Nat.le_of_ble_eq_true rfl) d_Mo_text_73 (fun H locs hP hD hS => ?_)
        have hP : va_P (dC, dI) vwCl [(hm, .inr (6, [.int (iZ 1), .int (iZ w), .int (iZ h), .int (iZ mn), .ref zd, .ref zb, .ref zt, .int (iZ n), .ref zs, .ref zc, .int (iZ fx), .int (iZ fy), .int (iZ fa), .int (iZ fb), .int (iZ fc), .int (iZ qr), .int (iZ fo), .ref zo])), (zd, .inl (cI, 32768, .inl (aI Dk))), (zt, .inl (cI, 4096, .inl (aI Dt))), (zs, .inl (cI, 12, .inl (aI Sz))), (zc, .inl (cI, 32768, .inl (aI Ce))), (zo, .inl (cZ, 5200, .inl (aI Co)))] H := hP
        have hD : va_D A [(hm, .inr (6, [.int (iZ 1), .int (iZ w), .int (iZ h), .int (iZ mn), .ref zd, .ref zb, .ref zt, .int (iZ n), .ref zs, .ref zc, .int (iZ fx), .int (iZ fy), .int (iZ fa), .int (iZ fb), .int (iZ fc), .int (iZ qr), .int (iZ fo), .ref zo])), (zd, .inl (cI, 32768, .inl (aI Dk))), (zt, .inl (cI, 4096, .inl (aI Dt))), (zs, .inl (cI, 12, .inl (aI Sz))), (zc, .inl (cI, 32768, .inl (aI Ce))), (zo, .inl (cZ, 5200, .inl (aI Co)))] := hD
        refine lv_aload_n hx hb d_Mo_text_76 rfl (lv_at hl 0 rfl) ?_
        refine va_get (D := (dC, dI)) (ci := 6) (v := .int (iZ 1)) (C := R_Mo) (T := T_Mo) (N := 18) hx hb hts wi_Mo hown hK hP 0 rfl rfl 0 (by decide) (hts _ t_684) (fun _ h9 => h9) rfl d_Mo_text_77 ?_
        refine zi_if_le (tgt := 85) hx hb d_Mo_text_80 (by decide) (by omega) (by omega) (fun c_80 => ?_) (fun c_80 => ?_)
        · exact absurd c_80 (by omega)
        · refine lv_iconst (v := iZ (0)) hx hb d_Mo_text_83 rfl ?_
          exact W.iret hx hb hr (fun t ht hW => ⟨⟨_, ((1, Dk, fun k9 => [fx, fy, fa, fb, fc, qr, fo].getD k9 0)), rfl, ⟨_, rfl, Or.inr ⟨by omega, rfl, rfl⟩⟩, by rw [ht]; exact hP, va_K.moved hW.alike hK, hD⟩, hS.F ht⟩) hS.2.2 d_Mo_text_84
      · have c_25 := of_decide_eq_false c_25
        refine lv_iload hx hb d_Mo_text_28 (lv_at hl 4 rfl) ?_
        refine lv_iconst (v := iZ (0)) hx hb d_Mo_text_30 rfl ?_
        refine lv_sipush (v := iZ (255)) hx hb d_Mo_text_31 (by decide) ?_
        refine vp_callSi (va_runS (As := [.int (iZ sc), .int (iZ 0), .int (iZ 255)]) (rest := [.ref hm]) ⟨hx, hb, hml, hown, hts⟩ (c_Model_isNot l dC dI sc 0 255 (by first | omega | assumption) (by first | omega | assumption) (by first | omega | assumption) (by first | omega | assumption) (by first | omega | assumption) (by first | omega | assumption)) (va_cwS 3 hts (gS t_771 t_772 t_6 t_773) rfl rfl rfl (by decide +kernel) ⟨Nat.le_of_ble_eq_true rfl, Nat.le_of_ble_eq_true rfl⟩) ⟨zPr_blind, zPr_pre hP hK [] [] rfl rfl⟩ rfl rfl hl.1 rfl (lv_room (Nat.le_of_ble_eq_true rfl)) d_Mo_text_34 ⟨Nat.le_of_ble_eq_true rfl, Nat.le_of_ble_eq_true rfl⟩).run (fun r_34 q_34 => ?_)
        obtain rfl := q_34
        refine zb_if_ne (tgt := 68) hx hb d_Mo_text_37 (by decide) (fun c_37 => ?_) (fun c_37 => ?_)
        · have c_37 := of_decide_eq_true c_37
          refine lv_iconst (v := iZ (1)) hx hb d_Mo_text_68 rfl ?_
          refine lv_goto (tgt := 73) hx hb d_Mo_text_69 (by decide) ?_
          refine va_put (D := (dC, dI)) (ci := 6) (v := .int (iZ 1)) (ty := .int) (C := R_Mo) (T := T_Mo) (N := 18) hx hb hts wi_Mo ty_Mo ty_Mo_ok nd_Mo hown hK hP hD hS 0 rfl rfl 0 (by decide) (hts _ t_684) (fun _ h9 => h9) rfl (by decide +kernel) rfl rfl (Nat.le_of_ble_eq_true rfl) d_Mo_text_73 (fun H locs hP hD hS => ?_)
          have hP : va_P (dC, dI) vwCl [(hm, .inr (6, [.int (iZ 1), .int (iZ w), .int (iZ h), .int (iZ mn), .ref zd, .ref zb, .ref zt, .int (iZ n), .ref zs, .ref zc, .int (iZ fx), .int (iZ fy), .int (iZ fa), .int (iZ fb), .int (iZ fc), .int (iZ qr), .int (iZ fo), .ref zo])), (zd, .inl (cI, 32768, .inl (aI Dk))), (zt, .inl (cI, 4096, .inl (aI Dt))), (zs, .inl (cI, 12, .inl (aI Sz))), (zc, .inl (cI, 32768, .inl (aI Ce))), (zo, .inl (cZ, 5200, .inl (aI Co)))] H := hP
          have hD : va_D A [(hm, .inr (6, [.int (iZ 1), .int (iZ w), .int (iZ h), .int (iZ mn), .ref zd, .ref zb, .ref zt, .int (iZ n), .ref zs, .ref zc, .int (iZ fx), .int (iZ fy), .int (iZ fa), .int (iZ fb), .int (iZ fc), .int (iZ qr), .int (iZ fo), .ref zo])), (zd, .inl (cI, 32768, .inl (aI Dk))), (zt, .inl (cI, 4096, .inl (aI Dt))), (zs, .inl (cI, 12, .inl (aI Sz))), (zc, .inl (cI, 32768, .inl (aI Ce))), (zo, .inl (cZ, 5200, .inl (aI Co)))] := hD
          refine lv_aload_n hx hb d_Mo_text_76 rfl (lv_at hl 0 rfl) ?_
          refine va_get (D := (dC, dI)) (ci := 6) (v := .int (iZ 1)) (C := R_Mo) (T := T_Mo) (N := 18) hx hb hts wi_Mo hown hK hP 0 rfl rfl 0 (by decide) (hts _ t_684) (fun _ h9 => h9) rfl d_Mo_text_77 ?_
          refine zi_if_le (tgt := 85) hx hb d_Mo_text_80 (by decide) (by omega) (by omega) (fun c_80 => ?_) (fun c_80 => ?_)
          · exact absurd c_80 (by omega)
          · refine lv_iconst (v := iZ (0)) hx hb d_Mo_text_83 rfl ?_
            exact W.iret hx hb hr (fun t ht hW => ⟨⟨_, ((1, Dk, fun k9 => [fx, fy, fa, fb, fc, qr, fo].getD k9 0)), rfl, ⟨_, rfl, Or.inr ⟨by omega, rfl, rfl⟩⟩, by rw [ht]; exact hP, va_K.moved hW.alike hK, hD⟩, hS.F ht⟩) hS.2.2 d_Mo_text_84
        · have c_37 := of_decide_eq_false c_37
          refine lv_iload hx hb d_Mo_text_40 (lv_at hl 4 rfl) ?_
          refine lv_bipush (v := iZ (16)) hx hb d_Mo_text_42 (by decide) ?_
          refine zi_div hx hb d_Mo_text_44 (by omega) (by omega) (by omega) (by omega) ?_
          refine lv_iconst (v := iZ (1)) hx hb d_Mo_text_45 rfl ?_
          refine lv_bipush (v := iZ (10)) hx hb d_Mo_text_46 (by decide) ?_
          refine vp_callSi (va_runS (As := [.int (iZ (sc / 16)), .int (iZ 1), .int (iZ 10)]) (rest := [.ref hm]) ⟨hx, hb, hml, hown, hts⟩ (c_Model_isNot l dC dI (sc / 16) 1 10 (by first | omega | assumption) (by first | omega | assumption) (by first | omega | assumption) (by first | omega | assumption) (by first | omega | assumption) (by first | omega | assumption)) (va_cwS 3 hts (gS t_771 t_772 t_6 t_773) rfl rfl rfl (by decide +kernel) ⟨Nat.le_of_ble_eq_true rfl, Nat.le_of_ble_eq_true rfl⟩) ⟨zPr_blind, zPr_pre hP hK [] [] rfl rfl⟩ rfl rfl hl.1 rfl (lv_room (Nat.le_of_ble_eq_true rfl)) d_Mo_text_48 ⟨Nat.le_of_ble_eq_true rfl, Nat.le_of_ble_eq_true rfl⟩).run (fun r_48 q_48 => ?_)
          obtain rfl := q_48
          refine zb_if_ne (tgt := 68) hx hb d_Mo_text_51 (by decide) (fun c_51 => ?_) (fun c_51 => ?_)
          · have c_51 := of_decide_eq_true c_51
            refine lv_iconst (v := iZ (1)) hx hb d_Mo_text_68 rfl ?_
            refine lv_goto (tgt := 73) hx hb d_Mo_text_69 (by decide) ?_
            refine va_put (D := (dC, dI)) (ci := 6) (v := .int (iZ 1)) (ty := .int) (C := R_Mo) (T := T_Mo) (N := 18) hx hb hts wi_Mo ty_Mo ty_Mo_ok nd_Mo hown hK hP hD hS 0 rfl rfl 0 (by decide) (hts _ t_684) (fun _ h9 => h9) rfl (by decide +kernel) rfl rfl (Nat.le_of_ble_eq_true rfl) d_Mo_text_73 (fun H locs hP hD hS => ?_)
            have hP : va_P (dC, dI) vwCl [(hm, .inr (6, [.int (iZ 1), .int (iZ w), .int (iZ h), .int (iZ mn), .ref zd, .ref zb, .ref zt, .int (iZ n), .ref zs, .ref zc, .int (iZ fx), .int (iZ fy), .int (iZ fa), .int (iZ fb), .int (iZ fc), .int (iZ qr), .int (iZ fo), .ref zo])), (zd, .inl (cI, 32768, .inl (aI Dk))), (zt, .inl (cI, 4096, .inl (aI Dt))), (zs, .inl (cI, 12, .inl (aI Sz))), (zc, .inl (cI, 32768, .inl (aI Ce))), (zo, .inl (cZ, 5200, .inl (aI Co)))] H := hP
            have hD : va_D A [(hm, .inr (6, [.int (iZ 1), .int (iZ w), .int (iZ h), .int (iZ mn), .ref zd, .ref zb, .ref zt, .int (iZ n), .ref zs, .ref zc, .int (iZ fx), .int (iZ fy), .int (iZ fa), .int (iZ fb), .int (iZ fc), .int (iZ qr), .int (iZ fo), .ref zo])), (zd, .inl (cI, 32768, .inl (aI Dk))), (zt, .inl (cI, 4096, .inl (aI Dt))), (zs, .inl (cI, 12, .inl (aI Sz))), (zc, .inl (cI, 32768, .inl (aI Ce))), (zo, .inl (cZ, 5200, .inl (aI Co)))] := hD
            refine lv_aload_n hx hb d_Mo_text_76 rfl (lv_at hl 0 rfl) ?_
            refine va_get (D := (dC, dI)) (ci := 6) (v := .int (iZ 1)) (C := R_Mo) (T := T_Mo) (N := 18) hx hb hts wi_Mo hown hK hP 0 rfl rfl 0 (by decide) (hts _ t_684) (fun _ h9 => h9) rfl d_Mo_text_77 ?_
            refine zi_if_le (tgt := 85) hx hb d_Mo_text_80 (by decide) (by omega) (by omega) (fun c_80 => ?_) (fun c_80 => ?_)
            · exact absurd c_80 (by omega)
            · refine lv_iconst (v := iZ (0)) hx hb d_Mo_text_83 rfl ?_
              exact W.iret hx hb hr (fun t ht hW => ⟨⟨_, ((1, Dk, fun k9 => [fx, fy, fa, fb, fc, qr, fo].getD k9 0)), rfl, ⟨_, rfl, Or.inr ⟨by omega, rfl, rfl⟩⟩, by rw [ht]; exact hP, va_K.moved hW.alike hK, hD⟩, hS.F ht⟩) hS.2.2 d_Mo_text_84
          · have c_51 := of_decide_eq_false c_51
            refine lv_iload hx hb d_Mo_text_54 (lv_at hl 4 rfl) ?_
            refine lv_bipush (v := iZ (16)) hx hb d_Mo_text_56 (by decide) ?_
            refine zi_rem hx hb d_Mo_text_58 (by omega) (by omega) (by omega) (by omega) ?_
            refine lv_iconst (v := iZ (1)) hx hb d_Mo_text_59 rfl ?_
            refine lv_bipush (v := iZ (10)) hx hb d_Mo_text_60 (by decide) ?_
            refine vp_callSi (va_runS (As := [.int (iZ (sc % 16)), .int (iZ 1), .int (iZ 10)]) (rest := [.ref hm]) ⟨hx, hb, hml, hown, hts⟩ (c_Model_isNot l dC dI (sc % 16) 1 10 (by first | omega | assumption) (by first | omega | assumption) (by first | omega | assumption) (by first | omega | assumption) (by first | omega | assumption) (by first | omega | assumption)) (va_cwS 3 hts (gS t_771 t_772 t_6 t_773) rfl rfl rfl (by decide +kernel) ⟨Nat.le_of_ble_eq_true rfl, Nat.le_of_ble_eq_true rfl⟩) ⟨zPr_blind, zPr_pre hP hK [] [] rfl rfl⟩ rfl rfl hl.1 rfl (lv_room (Nat.le_of_ble_eq_true rfl)) d_Mo_text_62 ⟨Nat.le_of_ble_eq_true rfl, Nat.le_of_ble_eq_true rfl⟩).run (fun r_62 q_62 => ?_)
            obtain rfl := q_62
            refine zb_if_eq (tgt := 72) hx hb d_Mo_text_65 (by decide) (fun c_65 => ?_) (fun c_65 => ?_)
            · have c_65 := of_decide_eq_false c_65
              refine lv_iconst (v := iZ (0)) hx hb d_Mo_text_72 rfl ?_
              refine va_put (D := (dC, dI)) (ci := 6) (v := .int (iZ 0)) (ty := .int) (C := R_Mo) (T := T_Mo) (N := 18) hx hb hts wi_Mo ty_Mo ty_Mo_ok nd_Mo hown hK hP hD hS 0 rfl rfl 0 (by decide) (hts _ t_684) (fun _ h9 => h9) rfl (by decide +kernel) rfl rfl (Nat.le_of_ble_eq_true rfl) d_Mo_text_73 (fun H locs hP hD hS => ?_)
              have hP : va_P (dC, dI) vwCl [(hm, .inr (6, [.int (iZ 0), .int (iZ w), .int (iZ h), .int (iZ mn), .ref zd, .ref zb, .ref zt, .int (iZ n), .ref zs, .ref zc, .int (iZ fx), .int (iZ fy), .int (iZ fa), .int (iZ fb), .int (iZ fc), .int (iZ qr), .int (iZ fo), .ref zo])), (zd, .inl (cI, 32768, .inl (aI Dk))), (zt, .inl (cI, 4096, .inl (aI Dt))), (zs, .inl (cI, 12, .inl (aI Sz))), (zc, .inl (cI, 32768, .inl (aI Ce))), (zo, .inl (cZ, 5200, .inl (aI Co)))] H := hP
              have hD : va_D A [(hm, .inr (6, [.int (iZ 0), .int (iZ w), .int (iZ h), .int (iZ mn), .ref zd, .ref zb, .ref zt, .int (iZ n), .ref zs, .ref zc, .int (iZ fx), .int (iZ fy), .int (iZ fa), .int (iZ fb), .int (iZ fc), .int (iZ qr), .int (iZ fo), .ref zo])), (zd, .inl (cI, 32768, .inl (aI Dk))), (zt, .inl (cI, 4096, .inl (aI Dt))), (zs, .inl (cI, 12, .inl (aI Sz))), (zc, .inl (cI, 32768, .inl (aI Ce))), (zo, .inl (cZ, 5200, .inl (aI Co)))] := hD
              refine lv_aload_n hx hb d_Mo_text_76 rfl (lv_at hl 0 rfl) ?_
              refine va_get (D := (dC, dI)) (ci := 6) (v := .int (iZ 0)) (C := R_Mo) (T := T_Mo) (N := 18) hx hb hts wi_Mo hown hK hP 0 rfl rfl 0 (by decide) (hts _ t_684) (fun _ h9 => h9) rfl d_Mo_text_77 ?_
              refine zi_if_le (tgt := 85) hx hb d_Mo_text_80 (by decide) (by omega) (by omega) (fun c_80 => ?_) (fun c_80 => ?_)
              · refine lv_aload_n hx hb d_Mo_text_85 rfl (lv_at hl 0 rfl) ?_
                refine lv_iload_n hx hb d_Mo_text_86 rfl (lv_at hl 1 rfl) ?_
                refine lv_iload_n hx hb d_Mo_text_87 rfl (lv_at hl 2 rfl) ?_
                refine lv_iload hx hb d_Mo_text_88 (lv_at hl 4 rfl) ?_
                refine lv_bipush (v := iZ (16)) hx hb d_Mo_text_90 (by decide) ?_
                refine zi_div hx hb d_Mo_text_92 (by omega) (by omega) (by omega) (by omega) ?_
                refine lv_iload hx hb d_Mo_text_93 (lv_at hl 4 rfl) ?_
                refine lv_bipush (v := iZ (16)) hx hb d_Mo_text_95 (by decide) ?_
                refine zi_rem hx hb d_Mo_text_97 (by omega) (by omega) (by omega) (by omega) ?_
                refine lv_iconst (v := iZ (0)) hx hb d_Mo_text_98 rfl ?_
                refine zc_v (w1 := fun (u_99 : Unit) => [(hm, .inr (6, [.int (iZ 0), .int (iZ w), .int (iZ h), .int (iZ mn), .ref zd, .ref zb, .ref zt, .int (iZ n), .ref zs, .ref zc, .int (iZ x), .int (iZ y), .int (iZ ((sc / 16))), .int (iZ ((sc % 16))), .int (iZ 0), .int (iZ qr), .int (iZ fo), .ref zo]))]) (wr := [(zd, .inl (cI, 32768, .inl (aI Dk))), (zt, .inl (cI, 4096, .inl (aI Dt))), (zs, .inl (cI, 12, .inl (aI Sz))), (zc, .inl (cI, 32768, .inl (aI Ce))), (zo, .inl (cZ, 5200, .inl (aI Co)))]) (va_runV (As := [.int (iZ x), .int (iZ y), .int (iZ (sc / 16)), .int (iZ (sc % 16)), .int (iZ 0)]) (rest := []) ⟨hx, hb, hml, hown, hts⟩ (c_Model_at l dC dI hm zd zb zt zs zc zo 0 w h mn n fx fy fa fb fc qr fo x y (sc / 16) (sc % 16) 0 H.size ) (cwV 5 hts (gV t_774 t_776 s_15 t_6 t_777) rfl rfl rfl (by decide +kernel) ⟨Nat.le_of_ble_eq_true rfl, Nat.le_of_ble_eq_true rfl⟩) ⟨zPm_blind, va_recv hK hP (ci := 6) (q0 := 0) rfl rfl, zPm_pre hP hD hK [0] [] rfl rfl rfl rfl⟩ rfl rfl hl.1 rfl (lv_room (Nat.le_of_ble_eq_true rfl)) d_Mo_text_99 ⟨Nat.le_of_ble_eq_true rfl, Nat.le_of_ble_eq_true rfl⟩) hP hD hS hA [0] [1, 2, 3, 4, 5] rfl rfl rfl (by decide) (fun u_99 H locs q_99 hP hD hS => ?_)
                have hP : va_P (dC, dI) vwCl [(zd, .inl (cI, 32768, .inl (aI Dk))), (zt, .inl (cI, 4096, .inl (aI Dt))), (zs, .inl (cI, 12, .inl (aI Sz))), (zc, .inl (cI, 32768, .inl (aI Ce))), (zo, .inl (cZ, 5200, .inl (aI Co))), (hm, .inr (6, [.int (iZ 0), .int (iZ w), .int (iZ h), .int (iZ mn), .ref zd, .ref zb, .ref zt, .int (iZ n), .ref zs, .ref zc, .int (iZ x), .int (iZ y), .int (iZ ((sc / 16))), .int (iZ ((sc % 16))), .int (iZ 0), .int (iZ qr), .int (iZ fo), .ref zo]))] H := hP
                have hD : va_D A [(zd, .inl (cI, 32768, .inl (aI Dk))), (zt, .inl (cI, 4096, .inl (aI Dt))), (zs, .inl (cI, 12, .inl (aI Sz))), (zc, .inl (cI, 32768, .inl (aI Ce))), (zo, .inl (cZ, 5200, .inl (aI Co))), (hm, .inr (6, [.int (iZ 0), .int (iZ w), .int (iZ h), .int (iZ mn), .ref zd, .ref zb, .ref zt, .int (iZ n), .ref zs, .ref zc, .int (iZ x), .int (iZ y), .int (iZ ((sc / 16))), .int (iZ ((sc % 16))), .int (iZ 0), .int (iZ qr), .int (iZ fo), .ref zo]))] := hD
                refine lv_aload_n hx hb d_Mo_text_102 rfl (lv_at hl 0 rfl) ?_
                refine lv_iload_n hx hb d_Mo_text_103 rfl (lv_at hl 3 rfl) ?_
                refine va_put (D := (dC, dI)) (ci := 6) (v := .int (iZ f)) (ty := .int) (C := R_Mo) (T := T_Mo) (N := 18) hx hb hts wi_Mo ty_Mo ty_Mo_ok nd_Mo hown hK hP hD hS 5 rfl rfl 16 (by decide) (hts _ t_700) (fun _ h9 => h9) rfl (by decide +kernel) rfl rfl (Nat.le_of_ble_eq_true rfl) d_Mo_text_104 (fun H locs hP hD hS => ?_)
                have hP : va_P (dC, dI) vwCl [(zd, .inl (cI, 32768, .inl (aI Dk))), (zt, .inl (cI, 4096, .inl (aI Dt))), (zs, .inl (cI, 12, .inl (aI Sz))), (zc, .inl (cI, 32768, .inl (aI Ce))), (zo, .inl (cZ, 5200, .inl (aI Co))), (hm, .inr (6, [.int (iZ 0), .int (iZ w), .int (iZ h), .int (iZ mn), .ref zd, .ref zb, .ref zt, .int (iZ n), .ref zs, .ref zc, .int (iZ x), .int (iZ y), .int (iZ ((sc / 16))), .int (iZ ((sc % 16))), .int (iZ 0), .int (iZ qr), .int (iZ f), .ref zo]))] H := hP
                have hD : va_D A [(zd, .inl (cI, 32768, .inl (aI Dk))), (zt, .inl (cI, 4096, .inl (aI Dt))), (zs, .inl (cI, 12, .inl (aI Sz))), (zc, .inl (cI, 32768, .inl (aI Ce))), (zo, .inl (cZ, 5200, .inl (aI Co))), (hm, .inr (6, [.int (iZ 0), .int (iZ w), .int (iZ h), .int (iZ mn), .ref zd, .ref zb, .ref zt, .int (iZ n), .ref zs, .ref zc, .int (iZ x), .int (iZ y), .int (iZ ((sc / 16))), .int (iZ ((sc % 16))), .int (iZ 0), .int (iZ qr), .int (iZ f), .ref zo]))] := hD
                refine lv_aload_n hx hb d_Mo_text_107 rfl (lv_at hl 0 rfl) ?_
                refine lv_iload hx hb d_Mo_text_108 (lv_at hl 5 rfl) ?_
                refine va_put (D := (dC, dI)) (ci := 6) (v := .int (iZ aq)) (ty := .int) (C := R_Mo) (T := T_Mo) (N := 18) hx hb hts wi_Mo ty_Mo ty_Mo_ok nd_Mo hown hK hP hD hS 5 rfl rfl 15 (by decide) (hts _ t_699) (fun _ h9 => h9) rfl (by decide +kernel) rfl rfl (Nat.le_of_ble_eq_true rfl) d_Mo_text_110 (fun H locs hP hD hS => ?_)
                have hP : va_P (dC, dI) vwCl [(zd, .inl (cI, 32768, .inl (aI Dk))), (zt, .inl (cI, 4096, .inl (aI Dt))), (zs, .inl (cI, 12, .inl (aI Sz))), (zc, .inl (cI, 32768, .inl (aI Ce))), (zo, .inl (cZ, 5200, .inl (aI Co))), (hm, .inr (6, [.int (iZ 0), .int (iZ w), .int (iZ h), .int (iZ mn), .ref zd, .ref zb, .ref zt, .int (iZ n), .ref zs, .ref zc, .int (iZ x), .int (iZ y), .int (iZ ((sc / 16))), .int (iZ ((sc % 16))), .int (iZ 0), .int (iZ aq), .int (iZ f), .ref zo]))] H := hP
                have hD : va_D A [(zd, .inl (cI, 32768, .inl (aI Dk))), (zt, .inl (cI, 4096, .inl (aI Dt))), (zs, .inl (cI, 12, .inl (aI Sz))), (zc, .inl (cI, 32768, .inl (aI Ce))), (zo, .inl (cZ, 5200, .inl (aI Co))), (hm, .inr (6, [.int (iZ 0), .int (iZ w), .int (iZ h), .int (iZ mn), .ref zd, .ref zb, .ref zt, .int (iZ n), .ref zs, .ref zc, .int (iZ x), .int (iZ y), .int (iZ ((sc / 16))), .int (iZ ((sc % 16))), .int (iZ 0), .int (iZ aq), .int (iZ f), .ref zo]))] := hD
                refine lv_aload_n hx hb d_Mo_text_113 rfl (lv_at hl 0 rfl) ?_
                refine lv_iconst (v := iZ (3)) hx hb d_Mo_text_114 rfl ?_
                refine zc_i (w1 := fun (u_115 : Int → Int32) => [(hm, .inr (6, [.int (iZ 0), .int (iZ w), .int (iZ h), .int (iZ mn), .ref zd, .ref zb, .ref zt, .int (iZ n), .ref zs, .ref zc, .int (iZ x), .int (iZ y), .int (iZ (((sc / 16)))), .int (iZ (((sc % 16)))), .int (iZ 0), .int (iZ aq), .int (iZ f), .ref zo])), (zd, .inl (cI, 32768, .inl (aI u_115))), (zt, .inl (cI, 4096, .inl (aI Dt))), (zs, .inl (cI, 12, .inl (aI Sz))), (zc, .inl (cI, 32768, .inl (aI Ce))), (zo, .inl (cZ, 5200, .inl (aI Co)))]) (wr := []) (va_runV (As := [.int (iZ 3)]) (rest := []) ⟨hx, hb, hml, hown, hts⟩ (c_Model_draw l dC dI hm zd zb zt zs zc zo 0 w h mn n x y ((sc / 16)) ((sc % 16)) 0 aq f cI cZ Dt Sz Ce Co X dr (fun _ => false) fw fh fg (txB X dr n fw fh fg (sc / 16) (sc % 16) aq x y) Dk pic 3 H.size (w1) (w2) (h1) (h2) (mn1) (mn2) (hM) (hO) (by omega) (by omega) (by omega) (by omega) (n1) (n2) (hT) (by omega) (by omega) (fun z9 => absurd z9 (by omega)) (fun z9 => absurd z9 (by omega)) (fun z9 => absurd z9 (by omega)) (fun z9 => absurd z9 (by omega)) (fun z9 => absurd z9 (by omega)) (fun _ => by have z9 := hz (by omega); exact ⟨by omega, by omega, by omega, by omega, by omega, by omega, by omega, z9.1, z9.2.1, z9.2.2.1, z9.2.2.2.1, z9.2.2.2.2.1, z9.2.2.2.2.2.1, z9.2.2.2.2.2.2.1, z9.2.2.2.2.2.2.2.1, z9.2.2.2.2.2.2.2.2.1, z9.2.2.2.2.2.2.2.2.2⟩) (fun _ => rfl) (fun z9 => absurd z9 (by omega)) (fun z9 => absurd z9 (by omega)) (fun z9 => absurd z9 (by omega)) (fun z9 => absurd z9 (by omega)) (fun z9 => absurd z9 (by omega)) (fun z9 => absurd z9 (by omega))) (cwV 1 hts (gV t_778 t_780 s_16 t_6 t_781) rfl rfl rfl (by decide +kernel) ⟨Nat.le_of_ble_eq_true rfl, Nat.le_of_ble_eq_true rfl⟩) ⟨zPm_blind, va_recv hK hP (ci := 6) (q0 := 5) rfl rfl, zPm_pre hP hD hK [5, 0, 1, 2, 3, 4] [0, 1] rfl rfl rfl rfl⟩ rfl rfl hl.1 rfl (lv_room (Nat.le_of_ble_eq_true rfl)) d_Mo_text_115 ⟨Nat.le_of_ble_eq_true rfl, Nat.le_of_ble_eq_true rfl⟩) hP hD hS hA [5, 0, 1, 2, 3, 4] [] rfl rfl rfl (by decide) (fun r_115 u_115 H locs q_115 hP hD hS => ?_)
                have hP : va_P (dC, dI) vwCl [(hm, .inr (6, [.int (iZ 0), .int (iZ w), .int (iZ h), .int (iZ mn), .ref zd, .ref zb, .ref zt, .int (iZ n), .ref zs, .ref zc, .int (iZ x), .int (iZ y), .int (iZ (((sc / 16)))), .int (iZ (((sc % 16)))), .int (iZ 0), .int (iZ aq), .int (iZ f), .ref zo])), (zd, .inl (cI, 32768, .inl (aI u_115))), (zt, .inl (cI, 4096, .inl (aI Dt))), (zs, .inl (cI, 12, .inl (aI Sz))), (zc, .inl (cI, 32768, .inl (aI Ce))), (zo, .inl (cZ, 5200, .inl (aI Co)))] H := hP
                have hD : va_D A [(hm, .inr (6, [.int (iZ 0), .int (iZ w), .int (iZ h), .int (iZ mn), .ref zd, .ref zb, .ref zt, .int (iZ n), .ref zs, .ref zc, .int (iZ x), .int (iZ y), .int (iZ (((sc / 16)))), .int (iZ (((sc % 16)))), .int (iZ 0), .int (iZ aq), .int (iZ f), .ref zo])), (zd, .inl (cI, 32768, .inl (aI u_115))), (zt, .inl (cI, 4096, .inl (aI Dt))), (zs, .inl (cI, 12, .inl (aI Sz))), (zc, .inl (cI, 32768, .inl (aI Ce))), (zo, .inl (cZ, 5200, .inl (aI Co)))] := hD
                obtain ⟨rfl, q_115⟩ := q_115
                exact W.iret hx hb hr (fun t ht hW => ⟨⟨_, ((0, u_115, fun k9 => [x, y, ((sc / 16)), ((sc % 16)), 0, aq, f].getD k9 0)), rfl, ⟨_, rfl, Or.inl ⟨by omega, rfl, rfl, q_115⟩⟩, by rw [ht]; exact hP, va_K.moved hW.alike hK, hD⟩, hS.F ht⟩) hS.2.2 d_Mo_text_118
              · exact absurd c_80 (by omega)
            · have c_65 := of_decide_eq_true c_65
              refine lv_iconst (v := iZ (1)) hx hb d_Mo_text_68 rfl ?_
              refine lv_goto (tgt := 73) hx hb d_Mo_text_69 (by decide) ?_
              refine va_put (D := (dC, dI)) (ci := 6) (v := .int (iZ 1)) (ty := .int) (C := R_Mo) (T := T_Mo) (N := 18) hx hb hts wi_Mo ty_Mo ty_Mo_ok nd_Mo hown hK hP hD hS 0 rfl rfl 0 (by decide) (hts _ t_684) (fun _ h9 => h9) rfl (by decide +kernel) rfl rfl (Nat.le_of_ble_eq_true rfl) d_Mo_text_73 (fun H locs hP hD hS => ?_)
              have hP : va_P (dC, dI) vwCl [(hm, .inr (6, [.int (iZ 1), .int (iZ w), .int (iZ h), .int (iZ mn), .ref zd, .ref zb, .ref zt, .int (iZ n), .ref zs, .ref zc, .int (iZ fx), .int (iZ fy), .int (iZ fa), .int (iZ fb), .int (iZ fc), .int (iZ qr), .int (iZ fo), .ref zo])), (zd, .inl (cI, 32768, .inl (aI Dk))), (zt, .inl (cI, 4096, .inl (aI Dt))), (zs, .inl (cI, 12, .inl (aI Sz))), (zc, .inl (cI, 32768, .inl (aI Ce))), (zo, .inl (cZ, 5200, .inl (aI Co)))] H := hP
              have hD : va_D A [(hm, .inr (6, [.int (iZ 1), .int (iZ w), .int (iZ h), .int (iZ mn), .ref zd, .ref zb, .ref zt, .int (iZ n), .ref zs, .ref zc, .int (iZ fx), .int (iZ fy), .int (iZ fa), .int (iZ fb), .int (iZ fc), .int (iZ qr), .int (iZ fo), .ref zo])), (zd, .inl (cI, 32768, .inl (aI Dk))), (zt, .inl (cI, 4096, .inl (aI Dt))), (zs, .inl (cI, 12, .inl (aI Sz))), (zc, .inl (cI, 32768, .inl (aI Ce))), (zo, .inl (cZ, 5200, .inl (aI Co)))] := hD
              refine lv_aload_n hx hb d_Mo_text_76 rfl (lv_at hl 0 rfl) ?_
              refine va_get (D := (dC, dI)) (ci := 6) (v := .int (iZ 1)) (C := R_Mo) (T := T_Mo) (N := 18) hx hb hts wi_Mo hown hK hP 0 rfl rfl 0 (by decide) (hts _ t_684) (fun _ h9 => h9) rfl d_Mo_text_77 ?_
              refine zi_if_le (tgt := 85) hx hb d_Mo_text_80 (by decide) (by omega) (by omega) (fun c_80 => ?_) (fun c_80 => ?_)
              · exact absurd c_80 (by omega)
              · refine lv_iconst (v := iZ (0)) hx hb d_Mo_text_83 rfl ?_
                exact W.iret hx hb hr (fun t ht hW => ⟨⟨_, ((1, Dk, fun k9 => [fx, fy, fa, fb, fc, qr, fo].getD k9 0)), rfl, ⟨_, rfl, Or.inr ⟨by omega, rfl, rfl⟩⟩, by rw [ht]; exact hP, va_K.moved hW.alike hK, hD⟩, hS.F ht⟩) hS.2.2 d_Mo_text_84
theorem d_Mo_square_0 : decode c_yMo_square 0 = .ok (.aload_n 0, 1) := by decide +kernel
theorem d_Mo_square_1 : decode c_yMo_square 1 = .ok (.iload_n 1, 1) := by decide +kernel
theorem d_Mo_square_2 : decode c_yMo_square 2 = .ok (.iload_n 2, 1) := by decide +kernel
theorem d_Mo_square_3 : decode c_yMo_square 3 = .ok (.invokestatic 124, 3) := by decide +kernel
theorem d_Mo_square_6 : decode c_yMo_square 6 = .ok (.ifCond .ne 35, 3) := by decide +kernel
theorem d_Mo_square_9 : decode c_yMo_square 9 = .ok (.iload_n 3, 1) := by decide +kernel
theorem d_Mo_square_10 : decode c_yMo_square 10 = .ok (.iconst 1, 1) := by decide +kernel
theorem d_Mo_square_11 : decode c_yMo_square 11 = .ok (.sipush 177, 3) := by decide +kernel
theorem d_Mo_square_14 : decode c_yMo_square 14 = .ok (.invokestatic 121, 3) := by decide +kernel
theorem d_Mo_square_17 : decode c_yMo_square 17 = .ok (.ifCond .ne 24, 3) := by decide +kernel
theorem d_Mo_square_20 : decode c_yMo_square 20 = .ok (.iload 4, 2) := by decide +kernel
theorem d_Mo_square_22 : decode c_yMo_square 22 = .ok (.iconst 1, 1) := by decide +kernel
theorem d_Mo_square_23 : decode c_yMo_square 23 = .ok (.bipush 50, 2) := by decide +kernel
theorem d_Mo_square_25 : decode c_yMo_square 25 = .ok (.invokestatic 121, 3) := by decide +kernel
theorem d_Mo_square_28 : decode c_yMo_square 28 = .ok (.ifCond .ne 13, 3) := by decide +kernel
theorem d_Mo_square_31 : decode c_yMo_square 31 = .ok (.iload 5, 2) := by decide +kernel
theorem d_Mo_square_33 : decode c_yMo_square 33 = .ok (.iconst 0, 1) := by decide +kernel
theorem d_Mo_square_34 : decode c_yMo_square 34 = .ok (.iconst 3, 1) := by decide +kernel
theorem d_Mo_square_35 : decode c_yMo_square 35 = .ok (.invokestatic 121, 3) := by decide +kernel
theorem d_Mo_square_38 : decode c_yMo_square 38 = .ok (.ifCond .eq 7, 3) := by decide +kernel
theorem d_Mo_square_41 : decode c_yMo_square 41 = .ok (.iconst 1, 1) := by decide +kernel
theorem d_Mo_square_42 : decode c_yMo_square 42 = .ok (.goto 21, 3) := by decide +kernel
theorem d_Mo_square_45 : decode c_yMo_square 45 = .ok (.bipush 8, 2) := by decide +kernel
theorem d_Mo_square_47 : decode c_yMo_square 47 = .ok (.aload_n 0, 1) := by decide +kernel
theorem d_Mo_square_48 : decode c_yMo_square 48 = .ok (.getfield 47, 3) := by decide +kernel
theorem d_Mo_square_51 : decode c_yMo_square 51 = .ok (.imul, 1) := by decide +kernel
theorem d_Mo_square_52 : decode c_yMo_square 52 = .ok (.iload_n 3, 1) := by decide +kernel
theorem d_Mo_square_53 : decode c_yMo_square 53 = .ok (.iload_n 3, 1) := by decide +kernel
theorem d_Mo_square_54 : decode c_yMo_square 54 = .ok (.imul, 1) := by decide +kernel
theorem d_Mo_square_55 : decode c_yMo_square 55 = .ok (.if_icmp .ge 7, 3) := by decide +kernel
theorem d_Mo_square_58 : decode c_yMo_square 58 = .ok (.iconst 2, 1) := by decide +kernel
theorem d_Mo_square_59 : decode c_yMo_square 59 = .ok (.goto 4, 3) := by decide +kernel
theorem d_Mo_square_62 : decode c_yMo_square 62 = .ok (.iconst 0, 1) := by decide +kernel
theorem d_Mo_square_63 : decode c_yMo_square 63 = .ok (.putfield 37, 3) := by decide +kernel
theorem d_Mo_square_66 : decode c_yMo_square 66 = .ok (.aload_n 0, 1) := by decide +kernel
theorem d_Mo_square_67 : decode c_yMo_square 67 = .ok (.getfield 37, 3) := by decide +kernel
theorem d_Mo_square_70 : decode c_yMo_square 70 = .ok (.ifCond .le 5, 3) := by decide +kernel
theorem d_Mo_square_73 : decode c_yMo_square 73 = .ok (.iconst 0, 1) := by decide +kernel
theorem d_Mo_square_74 : decode c_yMo_square 74 = .ok (.ireturn, 1) := by decide +kernel
theorem d_Mo_square_75 : decode c_yMo_square 75 = .ok (.aload_n 0, 1) := by decide +kernel
theorem d_Mo_square_76 : decode c_yMo_square 76 = .ok (.iload_n 1, 1) := by decide +kernel
theorem d_Mo_square_77 : decode c_yMo_square 77 = .ok (.iload_n 2, 1) := by decide +kernel
theorem d_Mo_square_78 : decode c_yMo_square 78 = .ok (.iload_n 3, 1) := by decide +kernel
theorem d_Mo_square_79 : decode c_yMo_square 79 = .ok (.iload 4, 2) := by decide +kernel
theorem d_Mo_square_81 : decode c_yMo_square 81 = .ok (.iconst 0, 1) := by decide +kernel
theorem d_Mo_square_82 : decode c_yMo_square 82 = .ok (.invokevirtual 130, 3) := by decide +kernel
theorem d_Mo_square_85 : decode c_yMo_square 85 = .ok (.aload_n 0, 1) := by decide +kernel
theorem d_Mo_square_86 : decode c_yMo_square 86 = .ok (.iload 5, 2) := by decide +kernel
theorem d_Mo_square_88 : decode c_yMo_square 88 = .ok (.putfield 75, 3) := by decide +kernel
theorem d_Mo_square_91 : decode c_yMo_square 91 = .ok (.aload_n 0, 1) := by decide +kernel
theorem d_Mo_square_92 : decode c_yMo_square 92 = .ok (.iconst 5, 1) := by decide +kernel
theorem d_Mo_square_93 : decode c_yMo_square 93 = .ok (.invokevirtual 134, 3) := by decide +kernel
theorem d_Mo_square_96 : decode c_yMo_square 96 = .ok (.ireturn, 1) := by decide +kernel
set_option maxHeartbeats 4000000 in
set_option maxRecDepth 100000 in
theorem c_Model_square (l : Launch) (dC : Nat → ClassId) (dI : Nat → Nat → Nat) (hm zd zb zt zs zc zo : Nat) (tw w h mn n fx fy fa fb fc qr fo : Int) (cI cZ : ClassId) (Dt Sz Ce Co : Int → Int32) (dr : Int → Int) (Dk : Int → Int32) (pic : Int → Int → Bool) (x y sn m_ aq : Int) (sz : Nat) (w1 : 1 ≤ w) (w2 : w ≤ 1024) (h1 : 1 ≤ h) (h2 : h ≤ 1024) (mn1 : 0 ≤ mn) (mn2 : mn ≤ 2) (hM : RepM Dk pic) (hO : Off w h pic) (n1 : 0 ≤ n) (n2 : n ≤ 4096) (hT : RepT Dt n dr) (x1 : -2147483648 ≤ x) (y1 : -2147483648 ≤ y) (sn1 : -2147483648 ≤ sn) (m_1 : -2147483648 ≤ m_) (aq1 : -2147483648 ≤ aq) (x2 : x ≤ 2147483647) (y2 : y ≤ 2147483647) (sn2 : sn ≤ 2147483647) (m_2 : m_ ≤ 2147483647) (aq2 : aq ≤ 2147483647) : Met l y_Mo_square w_Mo_square ({ frames := 4, cells := 0, slots := 0, locals := 106 }) (va_Pc [.ref hm, .int (iZ x), .int (iZ y), .int (iZ sn), .int (iZ m_), .int (iZ aq)] (zPm (dC, dI) vwCl [(hm, .inr (6, [.int (iZ tw), .int (iZ w), .int (iZ h), .int (iZ mn), .ref zd, .ref zb, .ref zt, .int (iZ n), .ref zs, .ref zc, .int (iZ fx), .int (iZ fy), .int (iZ fa), .int (iZ fb), .int (iZ fc), .int (iZ qr), .int (iZ fo), .ref zo])), (zd, .inl (cI, 32768, .inl (aI Dk))), (zt, .inl (cI, 4096, .inl (aI Dt))), (zs, .inl (cI, 12, .inl (aI Sz))), (zc, .inl (cI, 32768, .inl (aI Ce))), (zo, .inl (cZ, 5200, .inl (aI Co)))] [(cI, .int), (cZ, .boolean)] sz)) (va_Qi (fun (r : Int32) (u : Int × (Int → Int32) × (Nat → Int)) => ∃ z : Int, r = iZ z ∧ (((-4096 ≤ x ∧ x ≤ 4096 ∧ -4096 ≤ y ∧ y ≤ 4096 ∧ 0 ≤ aq ∧ aq ≤ 3 ∧ 1 ≤ sn ∧ sn ≤ 177 ∧ 1 ≤ m_ ∧ m_ ≤ 50) ∧ sn * sn ≤ 8 * n ∧ u.1 = 0 ∧ z = cnt w h (sqB dr aq x y sn m_) ∧ RepM u.2.1 (drw mn (fun px py => onB w h px py && sqB dr aq x y sn m_ px py) pic)) ∨ (¬ (-4096 ≤ x ∧ x ≤ 4096 ∧ -4096 ≤ y ∧ y ≤ 4096 ∧ 0 ≤ aq ∧ aq ≤ 3 ∧ 1 ≤ sn ∧ sn ≤ 177 ∧ 1 ≤ m_ ∧ m_ ≤ 50) ∧ u.1 = 1 ∧ u.2.1 = Dk) ∨ ((-4096 ≤ x ∧ x ≤ 4096 ∧ -4096 ≤ y ∧ y ≤ 4096 ∧ 0 ≤ aq ∧ aq ≤ 3 ∧ 1 ≤ sn ∧ sn ≤ 177 ∧ 1 ≤ m_ ∧ m_ ≤ 50) ∧ 8 * n < sn * sn ∧ u.1 = 2 ∧ u.2.1 = Dk))) (fun u => zB (dC, dI) vwCl [(cI, .int), (cZ, .boolean)] (va_A [(hm, .inr (6, [.int (iZ tw), .int (iZ w), .int (iZ h), .int (iZ mn), .ref zd, .ref zb, .ref zt, .int (iZ n), .ref zs, .ref zc, .int (iZ fx), .int (iZ fy), .int (iZ fa), .int (iZ fb), .int (iZ fc), .int (iZ qr), .int (iZ fo), .ref zo])), (zd, .inl (cI, 32768, .inl (aI Dk))), (zt, .inl (cI, 4096, .inl (aI Dt))), (zs, .inl (cI, 12, .inl (aI Sz))), (zc, .inl (cI, 32768, .inl (aI Ce))), (zo, .inl (cZ, 5200, .inl (aI Co)))] sz) [(hm, .inr (6, [.int (iZ u.1), .int (iZ w), .int (iZ h), .int (iZ mn), .ref zd, .ref zb, .ref zt, .int (iZ n), .ref zs, .ref zc, .int (iZ ((u.2.2 0))), .int (iZ ((u.2.2 1))), .int (iZ ((u.2.2 2))), .int (iZ ((u.2.2 3))), .int (iZ ((u.2.2 4))), .int (iZ ((u.2.2 5))), .int (iZ ((u.2.2 6))), .ref zo])), (zd, .inl (cI, 32768, .inl (aI u.2.1))), (zt, .inl (cI, 4096, .inl (aI Dt))), (zs, .inl (cI, 12, .inl (aI Sz))), (zc, .inl (cI, 32768, .inl (aI Ce))), (zo, .inl (cZ, 5200, .inl (aI Co)))]) (va_A [(hm, .inr (6, [.int (iZ tw), .int (iZ w), .int (iZ h), .int (iZ mn), .ref zd, .ref zb, .ref zt, .int (iZ n), .ref zs, .ref zc, .int (iZ fx), .int (iZ fy), .int (iZ fa), .int (iZ fb), .int (iZ fc), .int (iZ qr), .int (iZ fo), .ref zo])), (zd, .inl (cI, 32768, .inl (aI Dk))), (zt, .inl (cI, 4096, .inl (aI Dt))), (zs, .inl (cI, 12, .inl (aI Sz))), (zc, .inl (cI, 32768, .inl (aI Ce))), (zo, .inl (cZ, 5200, .inl (aI Co)))] sz)) 0 0 (va_A [(hm, .inr (6, [.int (iZ tw), .int (iZ w), .int (iZ h), .int (iZ mn), .ref zd, .ref zb, .ref zt, .int (iZ n), .ref zs, .ref zc, .int (iZ fx), .int (iZ fy), .int (iZ fa), .int (iZ fb), .int (iZ fc), .int (iZ qr), .int (iZ fo), .ref zo])), (zd, .inl (cI, 32768, .inl (aI Dk))), (zt, .inl (cI, 4096, .inl (aI Dt))), (zs, .inl (cI, 12, .inl (aI Sz))), (zc, .inl (cI, 32768, .inl (aI Ce))), (zo, .inl (cZ, 5200, .inl (aI Co)))] sz) := by
  refine Met.ofW (cc := c_yMo_square) (maxL := 6) (ret := (some .int)) (by decide) rfl ?_
  intro p e s m args below meth c s₁ B hml hv
  obtain ⟨rfl, hsz, hP, hK, hD0⟩ := hv
  have hx := B.exec
  have hb := B.bytes
  have hr := B.returns
  have hts0 := atoms_spec (ws := w_Mo_square) B.pre
  have hts : ∀ w ∈ gT, w.before _ s = true := fun w h => hts0 w (List.mem_cons_of_mem _ h)
  have hown : s.vm.findClass R_Mo = some m.cls := findClass_of_methodNamed B.named
  have hlocks := B.notSynchronized
  subst hsz
  have hD := hD0.self (sz := s.heap.size)
  generalize hAe : va_A [(hm, .inr (6, [.int (iZ tw), .int (iZ w), .int (iZ h), .int (iZ mn), .ref zd, .ref zb, .ref zt, .int (iZ n), .ref zs, .ref zc, .int (iZ fx), .int (iZ fy), .int (iZ fa), .int (iZ fb), .int (iZ fc), .int (iZ qr), .int (iZ fo), .ref zo])), (zd, .inl (cI, 32768, .inl (aI Dk))), (zt, .inl (cI, 4096, .inl (aI Dt))), (zs, .inl (cI, 12, .inl (aI Sz))), (zc, .inl (cI, 32768, .inl (aI Ce))), (zo, .inl (cZ, 5200, .inl (aI Co)))] s.heap.size = A at hD ⊢
  have hA : ∀ q : Nat, s.heap.size ≤ q → A q := fun q h => by rw [← hAe]; exact Or.inr h
  obtain ⟨H, hH⟩ : ∃ H, s.heap = H := ⟨_, rfl⟩
  have hS : va_S A s.heap H [] := by rw [← hH]; exact va_S.rf
  rw [hH] at hP
  rw [hH]
  have hl := lv_entry ([.ref hm, .int (iZ x), .int (iZ y), .int (iZ sn), .int (iZ m_), .int (iZ aq)]) (n := 6) (Nat.le_of_ble_eq_true rfl)
  rw [lg_entry_eq]
  generalize (lg_sl ([.ref hm, .int (iZ x), .int (iZ y), .int (iZ sn), .int (iZ m_), .int (iZ aq)]) ++ List.replicate (6 - (lg_sl ([.ref hm, .int (iZ x), .int (iZ y), .int (iZ sn), .int (iZ m_), .int (iZ aq)])).length) Slot.unset).toArray = ls at hl ⊢
  have hl : lv_has ls 6 [(0, .ref hm), (1, .int (iZ x)), (2, .int (iZ y)), (3, .int (iZ sn)), (4, .int (iZ m_)), (5, .int (iZ aq))] := hl
  refine lv_aload_n hx hb d_Mo_square_0 rfl (lv_at hl 0 rfl) ?_
  refine lv_iload_n hx hb d_Mo_square_1 rfl (lv_at hl 1 rfl) ?_
  refine lv_iload_n hx hb d_Mo_square_2 rfl (lv_at hl 2 rfl) ?_
  refine vp_callSi (va_runS (As := [.int (iZ x), .int (iZ y)]) (rest := [.ref hm]) ⟨hx, hb, hml, hown, hts⟩ (c_Model_noPlace l dC dI x y (by first | omega | assumption) (by first | omega | assumption) (by first | omega | assumption) (by first | omega | assumption)) (va_cwS 2 hts (gS t_765 t_766 t_6 t_767) rfl rfl rfl (by decide +kernel) ⟨Nat.le_of_ble_eq_true rfl, Nat.le_of_ble_eq_true rfl⟩) ⟨zPr_blind, zPr_pre hP hK [] [] rfl rfl⟩ rfl rfl hl.1 rfl (lv_room (Nat.le_of_ble_eq_true rfl)) d_Mo_square_3 ⟨Nat.le_of_ble_eq_true rfl, Nat.le_of_ble_eq_true rfl⟩).run (fun r_3 q_3 => ?_)
  obtain rfl := q_3
  refine zb_if_ne (tgt := 41) hx hb d_Mo_square_6 (by decide) (fun c_6 => ?_) (fun c_6 => ?_)
  · have c_6 := of_decide_eq_true c_6
    refine lv_iconst (v := iZ (1)) hx hb d_Mo_square_41 rfl ?_
    refine lv_goto (tgt := 63) hx hb d_Mo_square_42 (by decide) ?_
    refine va_put (D := (dC, dI)) (ci := 6) (v := .int (iZ 1)) (ty := .int) (C := R_Mo) (T := T_Mo) (N := 18) hx hb hts wi_Mo ty_Mo ty_Mo_ok nd_Mo hown hK hP hD hS 0 rfl rfl 0 (by decide) (hts _ t_684) (fun _ h9 => h9) rfl (by decide +kernel) rfl rfl (Nat.le_of_ble_eq_true rfl) d_Mo_square_63 (fun H locs hP hD hS => ?_)
    have hP : va_P (dC, dI) vwCl [(hm, .inr (6, [.int (iZ 1), .int (iZ w), .int (iZ h), .int (iZ mn), .ref zd, .ref zb, .ref zt, .int (iZ n), .ref zs, .ref zc, .int (iZ fx), .int (iZ fy), .int (iZ fa), .int (iZ fb), .int (iZ fc), .int (iZ qr), .int (iZ fo), .ref zo])), (zd, .inl (cI, 32768, .inl (aI Dk))), (zt, .inl (cI, 4096, .inl (aI Dt))), (zs, .inl (cI, 12, .inl (aI Sz))), (zc, .inl (cI, 32768, .inl (aI Ce))), (zo, .inl (cZ, 5200, .inl (aI Co)))] H := hP
    have hD : va_D A [(hm, .inr (6, [.int (iZ 1), .int (iZ w), .int (iZ h), .int (iZ mn), .ref zd, .ref zb, .ref zt, .int (iZ n), .ref zs, .ref zc, .int (iZ fx), .int (iZ fy), .int (iZ fa), .int (iZ fb), .int (iZ fc), .int (iZ qr), .int (iZ fo), .ref zo])), (zd, .inl (cI, 32768, .inl (aI Dk))), (zt, .inl (cI, 4096, .inl (aI Dt))), (zs, .inl (cI, 12, .inl (aI Sz))), (zc, .inl (cI, 32768, .inl (aI Ce))), (zo, .inl (cZ, 5200, .inl (aI Co)))] := hD
    refine lv_aload_n hx hb d_Mo_square_66 rfl (lv_at hl 0 rfl) ?_
    refine va_get (D := (dC, dI)) (ci := 6) (v := .int (iZ 1)) (C := R_Mo) (T := T_Mo) (N := 18) hx hb hts wi_Mo hown hK hP 0 rfl rfl 0 (by decide) (hts _ t_684) (fun _ h9 => h9) rfl d_Mo_square_67 ?_
    refine zi_if_le (tgt := 75) hx hb d_Mo_square_70 (by decide) (by omega) (by omega) (fun c_70 => ?_) (fun c_70 => ?_)
    · exact absurd c_70 (by omega)
    · refine lv_iconst (v := iZ (0)) hx hb d_Mo_square_73 rfl ?_
      exact W.iret hx hb hr (fun t ht hW => ⟨⟨_, ((1, Dk, fun k9 => [fx, fy, fa, fb, fc, qr, fo].getD k9 0)), rfl, by first | exact ⟨_, rfl, Or.inr (Or.inl ⟨by omega, rfl, rfl⟩)⟩ | exact ⟨_, rfl, Or.inr (Or.inr ⟨by omega, by omega, rfl, rfl⟩)⟩, by rw [ht]; exact hP, va_K.moved hW.alike hK, hD⟩, hS.F ht⟩) hS.2.2 d_Mo_square_74
  · have c_6 := of_decide_eq_false c_6
    refine lv_iload_n hx hb d_Mo_square_9 rfl (lv_at hl 3 rfl) ?_
    refine lv_iconst (v := iZ (1)) hx hb d_Mo_square_10 rfl ?_
    refine lv_sipush (v := iZ (177)) hx hb d_Mo_square_11 (by decide) ?_
    refine vp_callSi (va_runS (As := [.int (iZ sn), .int (iZ 1), .int (iZ 177)]) (rest := [.ref hm]) ⟨hx, hb, hml, hown, hts⟩ (c_Model_isNot l dC dI sn 1 177 (by first | omega | assumption) (by first | omega | assumption) (by first | omega | assumption) (by first | omega | assumption) (by first | omega | assumption) (by first | omega | assumption)) (va_cwS 3 hts (gS t_771 t_772 t_6 t_773) rfl rfl rfl (by decide +kernel) ⟨Nat.le_of_ble_eq_true rfl, Nat.le_of_ble_eq_true rfl⟩) ⟨zPr_blind, zPr_pre hP hK [] [] rfl rfl⟩ rfl rfl hl.1 rfl (lv_room (Nat.le_of_ble_eq_true rfl)) d_Mo_square_14 ⟨Nat.le_of_ble_eq_true rfl, Nat.le_of_ble_eq_true rfl⟩).run (fun r_14 q_14 => ?_)
    obtain rfl := q_14
    refine zb_if_ne (tgt := 41) hx hb d_Mo_square_17 (by decide) (fun c_17 => ?_) (fun c_17 => ?_)
    · have c_17 := of_decide_eq_true c_17
      refine lv_iconst (v := iZ (1)) hx hb d_Mo_square_41 rfl ?_
      refine lv_goto (tgt := 63) hx hb d_Mo_square_42 (by decide) ?_
      refine va_put (D := (dC, dI)) (ci := 6) (v := .int (iZ 1)) (ty := .int) (C := R_Mo) (T := T_Mo) (N := 18) hx hb hts wi_Mo ty_Mo ty_Mo_ok nd_Mo hown hK hP hD hS 0 rfl rfl 0 (by decide) (hts _ t_684) (fun _ h9 => h9) rfl (by decide +kernel) rfl rfl (Nat.le_of_ble_eq_true rfl) d_Mo_square_63 (fun H locs hP hD hS => ?_)
      have hP : va_P (dC, dI) vwCl [(hm, .inr (6, [.int (iZ 1), .int (iZ w), .int (iZ h), .int (iZ mn), .ref zd, .ref zb, .ref zt, .int (iZ n), .ref zs, .ref zc, .int (iZ fx), .int (iZ fy), .int (iZ fa), .int (iZ fb), .int (iZ fc), .int (iZ qr), .int (iZ fo), .ref zo])), (zd, .inl (cI, 32768, .inl (aI Dk))), (zt, .inl (cI, 4096, .inl (aI Dt))), (zs, .inl (cI, 12, .inl (aI Sz))), (zc, .inl (cI, 32768, .inl (aI Ce))), (zo, .inl (cZ, 5200, .inl (aI Co)))] H := hP
      have hD : va_D A [(hm, .inr (6, [.int (iZ 1), .int (iZ w), .int (iZ h), .int (iZ mn), .ref zd, .ref zb, .ref zt, .int (iZ n), .ref zs, .ref zc, .int (iZ fx), .int (iZ fy), .int (iZ fa), .int (iZ fb), .int (iZ fc), .int (iZ qr), .int (iZ fo), .ref zo])), (zd, .inl (cI, 32768, .inl (aI Dk))), (zt, .inl (cI, 4096, .inl (aI Dt))), (zs, .inl (cI, 12, .inl (aI Sz))), (zc, .inl (cI, 32768, .inl (aI Ce))), (zo, .inl (cZ, 5200, .inl (aI Co)))] := hD
      refine lv_aload_n hx hb d_Mo_square_66 rfl (lv_at hl 0 rfl) ?_
      refine va_get (D := (dC, dI)) (ci := 6) (v := .int (iZ 1)) (C := R_Mo) (T := T_Mo) (N := 18) hx hb hts wi_Mo hown hK hP 0 rfl rfl 0 (by decide) (hts _ t_684) (fun _ h9 => h9) rfl d_Mo_square_67 ?_
      refine zi_if_le (tgt := 75) hx hb d_Mo_square_70 (by decide) (by omega) (by omega) (fun c_70 => ?_) (fun c_70 => ?_)
      · exact absurd c_70 (by omega)
      · refine lv_iconst (v := iZ (0)) hx hb d_Mo_square_73 rfl ?_
        exact W.iret hx hb hr (fun t ht hW => ⟨⟨_, ((1, Dk, fun k9 => [fx, fy, fa, fb, fc, qr, fo].getD k9 0)), rfl, by first | exact ⟨_, rfl, Or.inr (Or.inl ⟨by omega, rfl, rfl⟩)⟩ | exact ⟨_, rfl, Or.inr (Or.inr ⟨by omega, by omega, rfl, rfl⟩)⟩, by rw [ht]; exact hP, va_K.moved hW.alike hK, hD⟩, hS.F ht⟩) hS.2.2 d_Mo_square_74
    · have c_17 := of_decide_eq_false c_17
      refine lv_iload hx hb d_Mo_square_20 (lv_at hl 4 rfl) ?_
      refine lv_iconst (v := iZ (1)) hx hb d_Mo_square_22 rfl ?_
      refine lv_bipush (v := iZ (50)) hx hb d_Mo_square_23 (by decide) ?_
      refine vp_callSi (va_runS (As := [.int (iZ m_), .int (iZ 1), .int (iZ 50)]) (rest := [.ref hm]) ⟨hx, hb, hml, hown, hts⟩ (c_Model_isNot l dC dI m_ 1 50 (by first | omega | assumption) (by first | omega | assumption) (by first | omega | assumption) (by first | omega | assumption) (by first | omega | assumption) (by first | omega | assumption)) (va_cwS 3 hts (gS t_771 t_772 t_6 t_773) rfl rfl rfl (by decide +kernel) ⟨Nat.le_of_ble_eq_true rfl, Nat.le_of_ble_eq_true rfl⟩) ⟨zPr_blind, zPr_pre hP hK [] [] rfl rfl⟩ rfl rfl hl.1 rfl (lv_room (Nat.le_of_ble_eq_true rfl)) d_Mo_square_25 ⟨Nat.le_of_ble_eq_true rfl, Nat.le_of_ble_eq_true rfl⟩).run (fun r_25 q_25 => ?_)
      obtain rfl := q_25
      refine zb_if_ne (tgt := 41) hx hb d_Mo_square_28 (by decide) (fun c_28 => ?_) (fun c_28 => ?_)
      · have c_28 := of_decide_eq_true c_28
        refine lv_iconst (v := iZ (1)) hx hb d_Mo_square_41 rfl ?_
        refine lv_goto (tgt := 63) hx hb d_Mo_square_42 (by decide) ?_
        refine va_put (D := (dC, dI)) (ci := 6) (v := .int (iZ 1)) (ty := .int) (C := R_Mo) (T := T_Mo) (N := 18) hx hb hts wi_Mo ty_Mo ty_Mo_ok nd_Mo hown hK hP hD hS 0 rfl rfl 0 (by decide) (hts _ t_684) (fun _ h9 => h9) rfl (by decide +kernel) rfl rfl (Nat.le_of_ble_eq_true rfl) d_Mo_square_63 (fun H locs hP hD hS => ?_)
        have hP : va_P (dC, dI) vwCl [(hm, .inr (6, [.int (iZ 1), .int (iZ w), .int (iZ h), .int (iZ mn), .ref zd, .ref zb, .ref zt, .int (iZ n), .ref zs, .ref zc, .int (iZ fx), .int (iZ fy), .int (iZ fa), .int (iZ fb), .int (iZ fc), .int (iZ qr), .int (iZ fo), .ref zo])), (zd, .inl (cI, 32768, .inl (aI Dk))), (zt, .inl (cI, 4096, .inl (aI Dt))), (zs, .inl (cI, 12, .inl (aI Sz))), (zc, .inl (cI, 32768, .inl (aI Ce))), (zo, .inl (cZ, 5200, .inl (aI Co)))] H := hP
        have hD : va_D A [(hm, .inr (6, [.int (iZ 1), .int (iZ w), .int (iZ h), .int (iZ mn), .ref zd, .ref zb, .ref zt, .int (iZ n), .ref zs, .ref zc, .int (iZ fx), .int (iZ fy), .int (iZ fa), .int (iZ fb), .int (iZ fc), .int (iZ qr), .int (iZ fo), .ref zo])), (zd, .inl (cI, 32768, .inl (aI Dk))), (zt, .inl (cI, 4096, .inl (aI Dt))), (zs, .inl (cI, 12, .inl (aI Sz))), (zc, .inl (cI, 32768, .inl (aI Ce))), (zo, .inl (cZ, 5200, .inl (aI Co)))] := hD
        refine lv_aload_n hx hb d_Mo_square_66 rfl (lv_at hl 0 rfl) ?_
        refine va_get (D := (dC, dI)) (ci := 6) (v := .int (iZ 1)) (C := R_Mo) (T := T_Mo) (N := 18) hx hb hts wi_Mo hown hK hP 0 rfl rfl 0 (by decide) (hts _ t_684) (fun _ h9 => h9) rfl d_Mo_square_67 ?_
        refine zi_if_le (tgt := 75) hx hb d_Mo_square_70 (by decide) (by omega) (by omega) (fun c_70 => ?_) (fun c_70 => ?_)
        · exact absurd c_70 (by omega)
        · refine lv_iconst (v := iZ (0)) hx hb d_Mo_square_73 rfl ?_
          exact W.iret hx hb hr (fun t ht hW => ⟨⟨_, ((1, Dk, fun k9 => [fx, fy, fa, fb, fc, qr, fo].getD k9 0)), rfl, by first | exact ⟨_, rfl, Or.inr (Or.inl ⟨by omega, rfl, rfl⟩)⟩ | exact ⟨_, rfl, Or.inr (Or.inr ⟨by omega, by omega, rfl, rfl⟩)⟩, by rw [ht]; exact hP, va_K.moved hW.alike hK, hD⟩, hS.F ht⟩) hS.2.2 d_Mo_square_74
      · have c_28 := of_decide_eq_false c_28
        refine lv_iload hx hb d_Mo_square_31 (lv_at hl 5 rfl) ?_
        refine lv_iconst (v := iZ (0)) hx hb d_Mo_square_33 rfl ?_
        refine lv_iconst (v := iZ (3)) hx hb d_Mo_square_34 rfl ?_
        refine vp_callSi (va_runS (As := [.int (iZ aq), .int (iZ 0), .int (iZ 3)]) (rest := [.ref hm]) ⟨hx, hb, hml, hown, hts⟩ (c_Model_isNot l dC dI aq 0 3 (by first | omega | assumption) (by first | omega | assumption) (by first | omega | assumption) (by first | omega | assumption) (by first | omega | assumption) (by first | omega | assumption)) (va_cwS 3 hts (gS t_771 t_772 t_6 t_773) rfl rfl rfl (by decide +kernel) ⟨Nat.le_of_ble_eq_true rfl, Nat.le_of_ble_eq_true rfl⟩) ⟨zPr_blind, zPr_pre hP hK [] [] rfl rfl⟩ rfl rfl hl.1 rfl (lv_room (Nat.le_of_ble_eq_true rfl)) d_Mo_square_35 ⟨Nat.le_of_ble_eq_true rfl, Nat.le_of_ble_eq_true rfl⟩).run (fun r_35 q_35 => ?_)
        obtain rfl := q_35
        refine zb_if_eq (tgt := 45) hx hb d_Mo_square_38 (by decide) (fun c_38 => ?_) (fun c_38 => ?_)
        · have c_38 := of_decide_eq_false c_38
          have sq9 := sq_le (a := sn) (b := 177) (by omega) (by omega)
          have sq8 := sq_nn sn
          refine lv_bipush (v := iZ (8)) hx hb d_Mo_square_45 (by decide) ?_
          refine lv_aload_n hx hb d_Mo_square_47 rfl (lv_at hl 0 rfl) ?_
          refine va_get (D := (dC, dI)) (ci := 6) (v := .int (iZ n)) (C := R_Mo) (T := T_Mo) (N := 18) hx hb hts wi_Mo hown hK hP 0 rfl rfl 7 (by decide) (hts _ t_691) (fun _ h9 => h9) rfl d_Mo_square_48 ?_
          refine zi_mul hx hb d_Mo_square_51 ?_
          refine lv_iload_n hx hb d_Mo_square_52 rfl (lv_at hl 3 rfl) ?_
          refine lv_iload_n hx hb d_Mo_square_53 rfl (lv_at hl 3 rfl) ?_
          refine zi_mul hx hb d_Mo_square_54 ?_
          refine zi_ge (tgt := 62) hx hb d_Mo_square_55 (by decide) (by omega) (by omega) (by omega) (by omega) (fun c_55 => ?_) (fun c_55 => ?_)
          · refine lv_iconst (v := iZ (0)) hx hb d_Mo_square_62 rfl ?_
            refine va_put (D := (dC, dI)) (ci := 6) (v := .int (iZ 0)) (ty := .int) (C := R_Mo) (T := T_Mo) (N := 18) hx hb hts wi_Mo ty_Mo ty_Mo_ok nd_Mo hown hK hP hD hS 0 rfl rfl 0 (by decide) (hts _ t_684) (fun _ h9 => h9) rfl (by decide +kernel) rfl rfl (Nat.le_of_ble_eq_true rfl) d_Mo_square_63 (fun H locs hP hD hS => ?_)
            have hP : va_P (dC, dI) vwCl [(hm, .inr (6, [.int (iZ 0), .int (iZ w), .int (iZ h), .int (iZ mn), .ref zd, .ref zb, .ref zt, .int (iZ n), .ref zs, .ref zc, .int (iZ fx), .int (iZ fy), .int (iZ fa), .int (iZ fb), .int (iZ fc), .int (iZ qr), .int (iZ fo), .ref zo])), (zd, .inl (cI, 32768, .inl (aI Dk))), (zt, .inl (cI, 4096, .inl (aI Dt))), (zs, .inl (cI, 12, .inl (aI Sz))), (zc, .inl (cI, 32768, .inl (aI Ce))), (zo, .inl (cZ, 5200, .inl (aI Co)))] H := hP
            have hD : va_D A [(hm, .inr (6, [.int (iZ 0), .int (iZ w), .int (iZ h), .int (iZ mn), .ref zd, .ref zb, .ref zt, .int (iZ n), .ref zs, .ref zc, .int (iZ fx), .int (iZ fy), .int (iZ fa), .int (iZ fb), .int (iZ fc), .int (iZ qr), .int (iZ fo), .ref zo])), (zd, .inl (cI, 32768, .inl (aI Dk))), (zt, .inl (cI, 4096, .inl (aI Dt))), (zs, .inl (cI, 12, .inl (aI Sz))), (zc, .inl (cI, 32768, .inl (aI Ce))), (zo, .inl (cZ, 5200, .inl (aI Co)))] := hD
            refine lv_aload_n hx hb d_Mo_square_66 rfl (lv_at hl 0 rfl) ?_
            refine va_get (D := (dC, dI)) (ci := 6) (v := .int (iZ 0)) (C := R_Mo) (T := T_Mo) (N := 18) hx hb hts wi_Mo hown hK hP 0 rfl rfl 0 (by decide) (hts _ t_684) (fun _ h9 => h9) rfl d_Mo_square_67 ?_
            refine zi_if_le (tgt := 75) hx hb d_Mo_square_70 (by decide) (by omega) (by omega) (fun c_70 => ?_) (fun c_70 => ?_)
            · refine lv_aload_n hx hb d_Mo_square_75 rfl (lv_at hl 0 rfl) ?_
              refine lv_iload_n hx hb d_Mo_square_76 rfl (lv_at hl 1 rfl) ?_
              refine lv_iload_n hx hb d_Mo_square_77 rfl (lv_at hl 2 rfl) ?_
              refine lv_iload_n hx hb d_Mo_square_78 rfl (lv_at hl 3 rfl) ?_
              refine lv_iload hx hb d_Mo_square_79 (lv_at hl 4 rfl) ?_
              refine lv_iconst (v := iZ (0)) hx hb d_Mo_square_81 rfl ?_
              refine zc_v (w1 := fun (u_82 : Unit) => [(hm, .inr (6, [.int (iZ 0), .int (iZ w), .int (iZ h), .int (iZ mn), .ref zd, .ref zb, .ref zt, .int (iZ n), .ref zs, .ref zc, .int (iZ x), .int (iZ y), .int (iZ sn), .int (iZ m_), .int (iZ 0), .int (iZ qr), .int (iZ fo), .ref zo]))]) (wr := [(zd, .inl (cI, 32768, .inl (aI Dk))), (zt, .inl (cI, 4096, .inl (aI Dt))), (zs, .inl (cI, 12, .inl (aI Sz))), (zc, .inl (cI, 32768, .inl (aI Ce))), (zo, .inl (cZ, 5200, .inl (aI Co)))]) (va_runV (As := [.int (iZ x), .int (iZ y), .int (iZ sn), .int (iZ m_), .int (iZ 0)]) (rest := []) ⟨hx, hb, hml, hown, hts⟩ (c_Model_at l dC dI hm zd zb zt zs zc zo 0 w h mn n fx fy fa fb fc qr fo x y sn m_ 0 H.size ) (cwV 5 hts (gV t_774 t_776 s_15 t_6 t_777) rfl rfl rfl (by decide +kernel) ⟨Nat.le_of_ble_eq_true rfl, Nat.le_of_ble_eq_true rfl⟩) ⟨zPm_blind, va_recv hK hP (ci := 6) (q0 := 0) rfl rfl, zPm_pre hP hD hK [0] [] rfl rfl rfl rfl⟩ rfl rfl hl.1 rfl (lv_room (Nat.le_of_ble_eq_true rfl)) d_Mo_square_82 ⟨Nat.le_of_ble_eq_true rfl, Nat.le_of_ble_eq_true rfl⟩) hP hD hS hA [0] [1, 2, 3, 4, 5] rfl rfl rfl (by decide) (fun u_82 H locs q_82 hP hD hS => ?_)
              have hP : va_P (dC, dI) vwCl [(zd, .inl (cI, 32768, .inl (aI Dk))), (zt, .inl (cI, 4096, .inl (aI Dt))), (zs, .inl (cI, 12, .inl (aI Sz))), (zc, .inl (cI, 32768, .inl (aI Ce))), (zo, .inl (cZ, 5200, .inl (aI Co))), (hm, .inr (6, [.int (iZ 0), .int (iZ w), .int (iZ h), .int (iZ mn), .ref zd, .ref zb, .ref zt, .int (iZ n), .ref zs, .ref zc, .int (iZ x), .int (iZ y), .int (iZ sn), .int (iZ m_), .int (iZ 0), .int (iZ qr), .int (iZ fo), .ref zo]))] H := hP
              have hD : va_D A [(zd, .inl (cI, 32768, .inl (aI Dk))), (zt, .inl (cI, 4096, .inl (aI Dt))), (zs, .inl (cI, 12, .inl (aI Sz))), (zc, .inl (cI, 32768, .inl (aI Ce))), (zo, .inl (cZ, 5200, .inl (aI Co))), (hm, .inr (6, [.int (iZ 0), .int (iZ w), .int (iZ h), .int (iZ mn), .ref zd, .ref zb, .ref zt, .int (iZ n), .ref zs, .ref zc, .int (iZ x), .int (iZ y), .int (iZ sn), .int (iZ m_), .int (iZ 0), .int (iZ qr), .int (iZ fo), .ref zo]))] := hD
              refine lv_aload_n hx hb d_Mo_square_85 rfl (lv_at hl 0 rfl) ?_
              refine lv_iload hx hb d_Mo_square_86 (lv_at hl 5 rfl) ?_
              refine va_put (D := (dC, dI)) (ci := 6) (v := .int (iZ aq)) (ty := .int) (C := R_Mo) (T := T_Mo) (N := 18) hx hb hts wi_Mo ty_Mo ty_Mo_ok nd_Mo hown hK hP hD hS 5 rfl rfl 15 (by decide) (hts _ t_699) (fun _ h9 => h9) rfl (by decide +kernel) rfl rfl (Nat.le_of_ble_eq_true rfl) d_Mo_square_88 (fun H locs hP hD hS => ?_)
              have hP : va_P (dC, dI) vwCl [(zd, .inl (cI, 32768, .inl (aI Dk))), (zt, .inl (cI, 4096, .inl (aI Dt))), (zs, .inl (cI, 12, .inl (aI Sz))), (zc, .inl (cI, 32768, .inl (aI Ce))), (zo, .inl (cZ, 5200, .inl (aI Co))), (hm, .inr (6, [.int (iZ 0), .int (iZ w), .int (iZ h), .int (iZ mn), .ref zd, .ref zb, .ref zt, .int (iZ n), .ref zs, .ref zc, .int (iZ x), .int (iZ y), .int (iZ sn), .int (iZ m_), .int (iZ 0), .int (iZ aq), .int (iZ fo), .ref zo]))] H := hP
              have hD : va_D A [(zd, .inl (cI, 32768, .inl (aI Dk))), (zt, .inl (cI, 4096, .inl (aI Dt))), (zs, .inl (cI, 12, .inl (aI Sz))), (zc, .inl (cI, 32768, .inl (aI Ce))), (zo, .inl (cZ, 5200, .inl (aI Co))), (hm, .inr (6, [.int (iZ 0), .int (iZ w), .int (iZ h), .int (iZ mn), .ref zd, .ref zb, .ref zt, .int (iZ n), .ref zs, .ref zc, .int (iZ x), .int (iZ y), .int (iZ sn), .int (iZ m_), .int (iZ 0), .int (iZ aq), .int (iZ fo), .ref zo]))] := hD
              refine lv_aload_n hx hb d_Mo_square_91 rfl (lv_at hl 0 rfl) ?_
              refine lv_iconst (v := iZ (5)) hx hb d_Mo_square_92 rfl ?_
              refine zc_i (w1 := fun (u_93 : Int → Int32) => [(hm, .inr (6, [.int (iZ 0), .int (iZ w), .int (iZ h), .int (iZ mn), .ref zd, .ref zb, .ref zt, .int (iZ n), .ref zs, .ref zc, .int (iZ x), .int (iZ y), .int (iZ sn), .int (iZ m_), .int (iZ 0), .int (iZ aq), .int (iZ fo), .ref zo])), (zd, .inl (cI, 32768, .inl (aI u_93))), (zt, .inl (cI, 4096, .inl (aI Dt))), (zs, .inl (cI, 12, .inl (aI Sz))), (zc, .inl (cI, 32768, .inl (aI Ce))), (zo, .inl (cZ, 5200, .inl (aI Co)))]) (wr := []) (va_runV (As := [.int (iZ 5)]) (rest := []) ⟨hx, hb, hml, hown, hts⟩ (c_Model_draw l dC dI hm zd zb zt zs zc zo 0 w h mn n x y sn m_ 0 aq fo cI cZ Dt Sz Ce Co (fun _ => iZ 0) dr (fun _ => false) 0 0 0 (sqB dr aq x y sn m_) Dk pic 5 H.size (w1) (w2) (h1) (h2) (mn1) (mn2) (hM) (hO) (by omega) (by omega) (by omega) (by omega) (n1) (n2) (hT) (by omega) (by omega) (fun z9 => absurd z9 (by omega)) (fun z9 => absurd z9 (by omega)) (fun z9 => absurd z9 (by omega)) (fun z9 => absurd z9 (by omega)) (fun z9 => absurd z9 (by omega)) (fun z9 => absurd z9 (by omega)) (fun z9 => absurd z9 (by omega)) (fun z9 => absurd z9 (by omega)) (fun z9 => absurd z9 (by omega)) (fun _ => ⟨by omega, by omega, by omega, by omega, by omega, by omega⟩) (fun _ => rfl) (fun z9 => absurd z9 (by omega)) (fun z9 => absurd z9 (by omega))) (cwV 1 hts (gV t_778 t_780 s_16 t_6 t_781) rfl rfl rfl (by decide +kernel) ⟨Nat.le_of_ble_eq_true rfl, Nat.le_of_ble_eq_true rfl⟩) ⟨zPm_blind, va_recv hK hP (ci := 6) (q0 := 5) rfl rfl, zPm_pre hP hD hK [5, 0, 1, 2, 3, 4] [0, 1] rfl rfl rfl rfl⟩ rfl rfl hl.1 rfl (lv_room (Nat.le_of_ble_eq_true rfl)) d_Mo_square_93 ⟨Nat.le_of_ble_eq_true rfl, Nat.le_of_ble_eq_true rfl⟩) hP hD hS hA [5, 0, 1, 2, 3, 4] [] rfl rfl rfl (by decide) (fun r_93 u_93 H locs q_93 hP hD hS => ?_)
              have hP : va_P (dC, dI) vwCl [(hm, .inr (6, [.int (iZ 0), .int (iZ w), .int (iZ h), .int (iZ mn), .ref zd, .ref zb, .ref zt, .int (iZ n), .ref zs, .ref zc, .int (iZ x), .int (iZ y), .int (iZ sn), .int (iZ m_), .int (iZ 0), .int (iZ aq), .int (iZ fo), .ref zo])), (zd, .inl (cI, 32768, .inl (aI u_93))), (zt, .inl (cI, 4096, .inl (aI Dt))), (zs, .inl (cI, 12, .inl (aI Sz))), (zc, .inl (cI, 32768, .inl (aI Ce))), (zo, .inl (cZ, 5200, .inl (aI Co)))] H := hP
              have hD : va_D A [(hm, .inr (6, [.int (iZ 0), .int (iZ w), .int (iZ h), .int (iZ mn), .ref zd, .ref zb, .ref zt, .int (iZ n), .ref zs, .ref zc, .int (iZ x), .int (iZ y), .int (iZ sn), .int (iZ m_), .int (iZ 0), .int (iZ aq), .int (iZ fo), .ref zo])), (zd, .inl (cI, 32768, .inl (aI u_93))), (zt, .inl (cI, 4096, .inl (aI Dt))), (zs, .inl (cI, 12, .inl (aI Sz))), (zc, .inl (cI, 32768, .inl (aI Ce))), (zo, .inl (cZ, 5200, .inl (aI Co)))] := hD
              obtain ⟨rfl, q_93⟩ := q_93
              exact W.iret hx hb hr (fun t ht hW => ⟨⟨_, ((0, u_93, fun k9 => [x, y, sn, m_, 0, aq, fo].getD k9 0)), rfl, ⟨_, rfl, Or.inl ⟨by omega, by omega, rfl, rfl, q_93⟩⟩, by rw [ht]; exact hP, va_K.moved hW.alike hK, hD⟩, hS.F ht⟩) hS.2.2 d_Mo_square_96
            · exact absurd c_70 (by omega)
          · refine lv_iconst (v := iZ (2)) hx hb d_Mo_square_58 rfl ?_
            refine lv_goto (tgt := 63) hx hb d_Mo_square_59 (by decide) ?_
            refine va_put (D := (dC, dI)) (ci := 6) (v := .int (iZ 2)) (ty := .int) (C := R_Mo) (T := T_Mo) (N := 18) hx hb hts wi_Mo ty_Mo ty_Mo_ok nd_Mo hown hK hP hD hS 0 rfl rfl 0 (by decide) (hts _ t_684) (fun _ h9 => h9) rfl (by decide +kernel) rfl rfl (Nat.le_of_ble_eq_true rfl) d_Mo_square_63 (fun H locs hP hD hS => ?_)
            have hP : va_P (dC, dI) vwCl [(hm, .inr (6, [.int (iZ 2), .int (iZ w), .int (iZ h), .int (iZ mn), .ref zd, .ref zb, .ref zt, .int (iZ n), .ref zs, .ref zc, .int (iZ fx), .int (iZ fy), .int (iZ fa), .int (iZ fb), .int (iZ fc), .int (iZ qr), .int (iZ fo), .ref zo])), (zd, .inl (cI, 32768, .inl (aI Dk))), (zt, .inl (cI, 4096, .inl (aI Dt))), (zs, .inl (cI, 12, .inl (aI Sz))), (zc, .inl (cI, 32768, .inl (aI Ce))), (zo, .inl (cZ, 5200, .inl (aI Co)))] H := hP
            have hD : va_D A [(hm, .inr (6, [.int (iZ 2), .int (iZ w), .int (iZ h), .int (iZ mn), .ref zd, .ref zb, .ref zt, .int (iZ n), .ref zs, .ref zc, .int (iZ fx), .int (iZ fy), .int (iZ fa), .int (iZ fb), .int (iZ fc), .int (iZ qr), .int (iZ fo), .ref zo])), (zd, .inl (cI, 32768, .inl (aI Dk))), (zt, .inl (cI, 4096, .inl (aI Dt))), (zs, .inl (cI, 12, .inl (aI Sz))), (zc, .inl (cI, 32768, .inl (aI Ce))), (zo, .inl (cZ, 5200, .inl (aI Co)))] := hD
            refine lv_aload_n hx hb d_Mo_square_66 rfl (lv_at hl 0 rfl) ?_
            refine va_get (D := (dC, dI)) (ci := 6) (v := .int (iZ 2)) (C := R_Mo) (T := T_Mo) (N := 18) hx hb hts wi_Mo hown hK hP 0 rfl rfl 0 (by decide) (hts _ t_684) (fun _ h9 => h9) rfl d_Mo_square_67 ?_
            refine zi_if_le (tgt := 75) hx hb d_Mo_square_70 (by decide) (by omega) (by omega) (fun c_70 => ?_) (fun c_70 => ?_)
            · exact absurd c_70 (by omega)
            · refine lv_iconst (v := iZ (0)) hx hb d_Mo_square_73 rfl ?_
              exact W.iret hx hb hr (fun t ht hW => ⟨⟨_, ((2, Dk, fun k9 => [fx, fy, fa, fb, fc, qr, fo].getD k9 0)), rfl, by first | exact ⟨_, rfl, Or.inr (Or.inl ⟨by omega, rfl, rfl⟩)⟩ | exact ⟨_, rfl, Or.inr (Or.inr ⟨by omega, by omega, rfl, rfl⟩)⟩, by rw [ht]; exact hP, va_K.moved hW.alike hK, hD⟩, hS.F ht⟩) hS.2.2 d_Mo_square_74
        · have c_38 := of_decide_eq_true c_38
          refine lv_iconst (v := iZ (1)) hx hb d_Mo_square_41 rfl ?_
          refine lv_goto (tgt := 63) hx hb d_Mo_square_42 (by decide) ?_
          refine va_put (D := (dC, dI)) (ci := 6) (v := .int (iZ 1)) (ty := .int) (C := R_Mo) (T := T_Mo) (N := 18) hx hb hts wi_Mo ty_Mo ty_Mo_ok nd_Mo hown hK hP hD hS 0 rfl rfl 0 (by decide) (hts _ t_684) (fun _ h9 => h9) rfl (by decide +kernel) rfl rfl (Nat.le_of_ble_eq_true rfl) d_Mo_square_63 (fun H locs hP hD hS => ?_)
          have hP : va_P (dC, dI) vwCl [(hm, .inr (6, [.int (iZ 1), .int (iZ w), .int (iZ h), .int (iZ mn), .ref zd, .ref zb, .ref zt, .int (iZ n), .ref zs, .ref zc, .int (iZ fx), .int (iZ fy), .int (iZ fa), .int (iZ fb), .int (iZ fc), .int (iZ qr), .int (iZ fo), .ref zo])), (zd, .inl (cI, 32768, .inl (aI Dk))), (zt, .inl (cI, 4096, .inl (aI Dt))), (zs, .inl (cI, 12, .inl (aI Sz))), (zc, .inl (cI, 32768, .inl (aI Ce))), (zo, .inl (cZ, 5200, .inl (aI Co)))] H := hP
          have hD : va_D A [(hm, .inr (6, [.int (iZ 1), .int (iZ w), .int (iZ h), .int (iZ mn), .ref zd, .ref zb, .ref zt, .int (iZ n), .ref zs, .ref zc, .int (iZ fx), .int (iZ fy), .int (iZ fa), .int (iZ fb), .int (iZ fc), .int (iZ qr), .int (iZ fo), .ref zo])), (zd, .inl (cI, 32768, .inl (aI Dk))), (zt, .inl (cI, 4096, .inl (aI Dt))), (zs, .inl (cI, 12, .inl (aI Sz))), (zc, .inl (cI, 32768, .inl (aI Ce))), (zo, .inl (cZ, 5200, .inl (aI Co)))] := hD
          refine lv_aload_n hx hb d_Mo_square_66 rfl (lv_at hl 0 rfl) ?_
          refine va_get (D := (dC, dI)) (ci := 6) (v := .int (iZ 1)) (C := R_Mo) (T := T_Mo) (N := 18) hx hb hts wi_Mo hown hK hP 0 rfl rfl 0 (by decide) (hts _ t_684) (fun _ h9 => h9) rfl d_Mo_square_67 ?_
          refine zi_if_le (tgt := 75) hx hb d_Mo_square_70 (by decide) (by omega) (by omega) (fun c_70 => ?_) (fun c_70 => ?_)
          · exact absurd c_70 (by omega)
          · refine lv_iconst (v := iZ (0)) hx hb d_Mo_square_73 rfl ?_
            exact W.iret hx hb hr (fun t ht hW => ⟨⟨_, ((1, Dk, fun k9 => [fx, fy, fa, fb, fc, qr, fo].getD k9 0)), rfl, by first | exact ⟨_, rfl, Or.inr (Or.inl ⟨by omega, rfl, rfl⟩)⟩ | exact ⟨_, rfl, Or.inr (Or.inr ⟨by omega, by omega, rfl, rfl⟩)⟩, by rw [ht]; exact hP, va_K.moved hW.alike hK, hD⟩, hS.F ht⟩) hS.2.2 d_Mo_square_74
theorem d_Mo_picture_0 : decode c_yMo_picture 0 = .ok (.aload_n 0, 1) := by decide +kernel
theorem d_Mo_picture_1 : decode c_yMo_picture 1 = .ok (.iload_n 1, 1) := by decide +kernel
theorem d_Mo_picture_2 : decode c_yMo_picture 2 = .ok (.iload_n 2, 1) := by decide +kernel
theorem d_Mo_picture_3 : decode c_yMo_picture 3 = .ok (.invokestatic 124, 3) := by decide +kernel
theorem d_Mo_picture_6 : decode c_yMo_picture 6 = .ok (.ifCond .ne 14, 3) := by decide +kernel
theorem d_Mo_picture_9 : decode c_yMo_picture 9 = .ok (.iload_n 3, 1) := by decide +kernel
theorem d_Mo_picture_10 : decode c_yMo_picture 10 = .ok (.iconst 1, 1) := by decide +kernel
theorem d_Mo_picture_11 : decode c_yMo_picture 11 = .ok (.sipush 2048, 3) := by decide +kernel
theorem d_Mo_picture_14 : decode c_yMo_picture 14 = .ok (.invokestatic 121, 3) := by decide +kernel
theorem d_Mo_picture_17 : decode c_yMo_picture 17 = .ok (.ifCond .eq 7, 3) := by decide +kernel
theorem d_Mo_picture_20 : decode c_yMo_picture 20 = .ok (.iconst 1, 1) := by decide +kernel
theorem d_Mo_picture_21 : decode c_yMo_picture 21 = .ok (.goto 23, 3) := by decide +kernel
theorem d_Mo_picture_24 : decode c_yMo_picture 24 = .ok (.aload_n 0, 1) := by decide +kernel
theorem d_Mo_picture_25 : decode c_yMo_picture 25 = .ok (.getfield 47, 3) := by decide +kernel
theorem d_Mo_picture_28 : decode c_yMo_picture 28 = .ok (.iload_n 3, 1) := by decide +kernel
theorem d_Mo_picture_29 : decode c_yMo_picture 29 = .ok (.bipush 7, 2) := by decide +kernel
theorem d_Mo_picture_31 : decode c_yMo_picture 31 = .ok (.iadd, 1) := by decide +kernel
theorem d_Mo_picture_32 : decode c_yMo_picture 32 = .ok (.bipush 8, 2) := by decide +kernel
theorem d_Mo_picture_34 : decode c_yMo_picture 34 = .ok (.idiv, 1) := by decide +kernel
theorem d_Mo_picture_35 : decode c_yMo_picture 35 = .ok (.irem, 1) := by decide +kernel
theorem d_Mo_picture_36 : decode c_yMo_picture 36 = .ok (.ifCond .eq 7, 3) := by decide +kernel
theorem d_Mo_picture_39 : decode c_yMo_picture 39 = .ok (.iconst 2, 1) := by decide +kernel
theorem d_Mo_picture_40 : decode c_yMo_picture 40 = .ok (.goto 4, 3) := by decide +kernel
theorem d_Mo_picture_43 : decode c_yMo_picture 43 = .ok (.iconst 0, 1) := by decide +kernel
theorem d_Mo_picture_44 : decode c_yMo_picture 44 = .ok (.putfield 37, 3) := by decide +kernel
theorem d_Mo_picture_47 : decode c_yMo_picture 47 = .ok (.aload_n 0, 1) := by decide +kernel
theorem d_Mo_picture_48 : decode c_yMo_picture 48 = .ok (.getfield 37, 3) := by decide +kernel
theorem d_Mo_picture_51 : decode c_yMo_picture 51 = .ok (.ifCond .le 5, 3) := by decide +kernel
theorem d_Mo_picture_54 : decode c_yMo_picture 54 = .ok (.iconst 0, 1) := by decide +kernel
theorem d_Mo_picture_55 : decode c_yMo_picture 55 = .ok (.ireturn, 1) := by decide +kernel
theorem d_Mo_picture_56 : decode c_yMo_picture 56 = .ok (.aload_n 0, 1) := by decide +kernel
theorem d_Mo_picture_57 : decode c_yMo_picture 57 = .ok (.iload_n 1, 1) := by decide +kernel
theorem d_Mo_picture_58 : decode c_yMo_picture 58 = .ok (.iload_n 2, 1) := by decide +kernel
theorem d_Mo_picture_59 : decode c_yMo_picture 59 = .ok (.iload_n 3, 1) := by decide +kernel
theorem d_Mo_picture_60 : decode c_yMo_picture 60 = .ok (.iconst 0, 1) := by decide +kernel
theorem d_Mo_picture_61 : decode c_yMo_picture 61 = .ok (.iconst 0, 1) := by decide +kernel
theorem d_Mo_picture_62 : decode c_yMo_picture 62 = .ok (.invokevirtual 130, 3) := by decide +kernel
theorem d_Mo_picture_65 : decode c_yMo_picture 65 = .ok (.aload_n 0, 1) := by decide +kernel
theorem d_Mo_picture_66 : decode c_yMo_picture 66 = .ok (.bipush 6, 2) := by decide +kernel
theorem d_Mo_picture_68 : decode c_yMo_picture 68 = .ok (.invokevirtual 134, 3) := by decide +kernel
theorem d_Mo_picture_71 : decode c_yMo_picture 71 = .ok (.ireturn, 1) := by decide +kernel
set_option maxHeartbeats 4000000 in
set_option maxRecDepth 100000 in
theorem c_Model_picture (l : Launch) (dC : Nat → ClassId) (dI : Nat → Nat → Nat) (hm zd zb zt zs zc zo : Nat) (tw w h mn n fx fy fa fb fc qr fo : Int) (cI cZ : ClassId) (Dt Sz Ce Co : Int → Int32) (dr : Int → Int) (Dk : Int → Int32) (pic : Int → Int → Bool) (x y bw : Int) (sz : Nat) (w1 : 1 ≤ w) (w2 : w ≤ 1024) (h1 : 1 ≤ h) (h2 : h ≤ 1024) (mn1 : 0 ≤ mn) (mn2 : mn ≤ 2) (hM : RepM Dk pic) (hO : Off w h pic) (n1 : 0 ≤ n) (n2 : n ≤ 4096) (hT : RepT Dt n dr) (x1 : -2147483648 ≤ x) (y1 : -2147483648 ≤ y) (bw1 : -2147483648 ≤ bw) (x2 : x ≤ 2147483647) (y2 : y ≤ 2147483647) (bw2 : bw ≤ 2147483647) : Met l y_Mo_picture w_Mo_picture ({ frames := 4, cells := 0, slots := 0, locals := 106 }) (va_Pc [.ref hm, .int (iZ x), .int (iZ y), .int (iZ bw)] (zPm (dC, dI) vwCl [(hm, .inr (6, [.int (iZ tw), .int (iZ w), .int (iZ h), .int (iZ mn), .ref zd, .ref zb, .ref zt, .int (iZ n), .ref zs, .ref zc, .int (iZ fx), .int (iZ fy), .int (iZ fa), .int (iZ fb), .int (iZ fc), .int (iZ qr), .int (iZ fo), .ref zo])), (zd, .inl (cI, 32768, .inl (aI Dk))), (zt, .inl (cI, 4096, .inl (aI Dt))), (zs, .inl (cI, 12, .inl (aI Sz))), (zc, .inl (cI, 32768, .inl (aI Ce))), (zo, .inl (cZ, 5200, .inl (aI Co)))] [(cI, .int), (cZ, .boolean)] sz)) (va_Qi (fun (r : Int32) (u : Int × (Int → Int32) × (Nat → Int)) => ∃ z : Int, r = iZ z ∧ (((-4096 ≤ x ∧ x ≤ 4096 ∧ -4096 ≤ y ∧ y ≤ 4096 ∧ 1 ≤ bw ∧ bw ≤ 2048) ∧ n % ((bw + 7) / 8) = 0 ∧ u.1 = 0 ∧ z = cnt w h (picB dr x y bw ((bw + 7) / 8) (n / ((bw + 7) / 8))) ∧ RepM u.2.1 (drw mn (fun px py => onB w h px py && picB dr x y bw ((bw + 7) / 8) (n / ((bw + 7) / 8)) px py) pic)) ∨ (¬ (-4096 ≤ x ∧ x ≤ 4096 ∧ -4096 ≤ y ∧ y ≤ 4096 ∧ 1 ≤ bw ∧ bw ≤ 2048) ∧ u.1 = 1 ∧ u.2.1 = Dk) ∨ ((-4096 ≤ x ∧ x ≤ 4096 ∧ -4096 ≤ y ∧ y ≤ 4096 ∧ 1 ≤ bw ∧ bw ≤ 2048) ∧ n % ((bw + 7) / 8) ≠ 0 ∧ u.1 = 2 ∧ u.2.1 = Dk))) (fun u => zB (dC, dI) vwCl [(cI, .int), (cZ, .boolean)] (va_A [(hm, .inr (6, [.int (iZ tw), .int (iZ w), .int (iZ h), .int (iZ mn), .ref zd, .ref zb, .ref zt, .int (iZ n), .ref zs, .ref zc, .int (iZ fx), .int (iZ fy), .int (iZ fa), .int (iZ fb), .int (iZ fc), .int (iZ qr), .int (iZ fo), .ref zo])), (zd, .inl (cI, 32768, .inl (aI Dk))), (zt, .inl (cI, 4096, .inl (aI Dt))), (zs, .inl (cI, 12, .inl (aI Sz))), (zc, .inl (cI, 32768, .inl (aI Ce))), (zo, .inl (cZ, 5200, .inl (aI Co)))] sz) [(hm, .inr (6, [.int (iZ u.1), .int (iZ w), .int (iZ h), .int (iZ mn), .ref zd, .ref zb, .ref zt, .int (iZ n), .ref zs, .ref zc, .int (iZ ((u.2.2 0))), .int (iZ ((u.2.2 1))), .int (iZ ((u.2.2 2))), .int (iZ ((u.2.2 3))), .int (iZ ((u.2.2 4))), .int (iZ ((u.2.2 5))), .int (iZ ((u.2.2 6))), .ref zo])), (zd, .inl (cI, 32768, .inl (aI u.2.1))), (zt, .inl (cI, 4096, .inl (aI Dt))), (zs, .inl (cI, 12, .inl (aI Sz))), (zc, .inl (cI, 32768, .inl (aI Ce))), (zo, .inl (cZ, 5200, .inl (aI Co)))]) (va_A [(hm, .inr (6, [.int (iZ tw), .int (iZ w), .int (iZ h), .int (iZ mn), .ref zd, .ref zb, .ref zt, .int (iZ n), .ref zs, .ref zc, .int (iZ fx), .int (iZ fy), .int (iZ fa), .int (iZ fb), .int (iZ fc), .int (iZ qr), .int (iZ fo), .ref zo])), (zd, .inl (cI, 32768, .inl (aI Dk))), (zt, .inl (cI, 4096, .inl (aI Dt))), (zs, .inl (cI, 12, .inl (aI Sz))), (zc, .inl (cI, 32768, .inl (aI Ce))), (zo, .inl (cZ, 5200, .inl (aI Co)))] sz)) 0 0 (va_A [(hm, .inr (6, [.int (iZ tw), .int (iZ w), .int (iZ h), .int (iZ mn), .ref zd, .ref zb, .ref zt, .int (iZ n), .ref zs, .ref zc, .int (iZ fx), .int (iZ fy), .int (iZ fa), .int (iZ fb), .int (iZ fc), .int (iZ qr), .int (iZ fo), .ref zo])), (zd, .inl (cI, 32768, .inl (aI Dk))), (zt, .inl (cI, 4096, .inl (aI Dt))), (zs, .inl (cI, 12, .inl (aI Sz))), (zc, .inl (cI, 32768, .inl (aI Ce))), (zo, .inl (cZ, 5200, .inl (aI Co)))] sz) := by
  refine Met.ofW (cc := c_yMo_picture) (maxL := 4) (ret := (some .int)) (by decide) rfl ?_
  intro p e s m args below meth c s₁ B hml hv
  obtain ⟨rfl, hsz, hP, hK, hD0⟩ := hv
  have hx := B.exec
  have hb := B.bytes
  have hr := B.returns
  have hts0 := atoms_spec (ws := w_Mo_picture) B.pre
  have hts : ∀ w ∈ gT, w.before _ s = true := fun w h => hts0 w (List.mem_cons_of_mem _ h)
  have hown : s.vm.findClass R_Mo = some m.cls := findClass_of_methodNamed B.named
  have hlocks := B.notSynchronized
  subst hsz
  have hD := hD0.self (sz := s.heap.size)
  generalize hAe : va_A [(hm, .inr (6, [.int (iZ tw), .int (iZ w), .int (iZ h), .int (iZ mn), .ref zd, .ref zb, .ref zt, .int (iZ n), .ref zs, .ref zc, .int (iZ fx), .int (iZ fy), .int (iZ fa), .int (iZ fb), .int (iZ fc), .int (iZ qr), .int (iZ fo), .ref zo])), (zd, .inl (cI, 32768, .inl (aI Dk))), (zt, .inl (cI, 4096, .inl (aI Dt))), (zs, .inl (cI, 12, .inl (aI Sz))), (zc, .inl (cI, 32768, .inl (aI Ce))), (zo, .inl (cZ, 5200, .inl (aI Co)))] s.heap.size = A at hD ⊢
  have hA : ∀ q : Nat, s.heap.size ≤ q → A q := fun q h => by rw [← hAe]; exact Or.inr h
  obtain ⟨H, hH⟩ : ∃ H, s.heap = H := ⟨_, rfl⟩
  have hS : va_S A s.heap H [] := by rw [← hH]; exact va_S.rf
  rw [hH] at hP
  rw [hH]
  have hl := lv_entry ([.ref hm, .int (iZ x), .int (iZ y), .int (iZ bw)]) (n := 4) (Nat.le_of_ble_eq_true rfl)
  rw [lg_entry_eq]
  generalize (lg_sl ([.ref hm, .int (iZ x), .int (iZ y), .int (iZ bw)]) ++ List.replicate (4 - (lg_sl ([.ref hm, .int (iZ x), .int (iZ y), .int (iZ bw)])).length) Slot.unset).toArray = ls at hl ⊢
  have hl : lv_has ls 4 [(0, .ref hm), (1, .int (iZ x)), (2, .int (iZ y)), (3, .int (iZ bw))] := hl
  refine lv_aload_n hx hb d_Mo_picture_0 rfl (lv_at hl 0 rfl) ?_
  refine lv_iload_n hx hb d_Mo_picture_1 rfl (lv_at hl 1 rfl) ?_
  refine lv_iload_n hx hb d_Mo_picture_2 rfl (lv_at hl 2 rfl) ?_
  refine vp_callSi (va_runS (As := [.int (iZ x), .int (iZ y)]) (rest := [.ref hm]) ⟨hx, hb, hml, hown, hts⟩ (c_Model_noPlace l dC dI x y (by first | omega | assumption) (by first | omega | assumption) (by first | omega | assumption) (by first | omega | assumption)) (va_cwS 2 hts (gS t_765 t_766 t_6 t_767) rfl rfl rfl (by decide +kernel) ⟨Nat.le_of_ble_eq_true rfl, Nat.le_of_ble_eq_true rfl⟩) ⟨zPr_blind, zPr_pre hP hK [] [] rfl rfl⟩ rfl rfl hl.1 rfl (lv_room (Nat.le_of_ble_eq_true rfl)) d_Mo_picture_3 ⟨Nat.le_of_ble_eq_true rfl, Nat.le_of_ble_eq_true rfl⟩).run (fun r_3 q_3 => ?_)
  obtain rfl := q_3
  refine zb_if_ne (tgt := 20) hx hb d_Mo_picture_6 (by decide) (fun c_6 => ?_) (fun c_6 => ?_)
  · have c_6 := of_decide_eq_true c_6
    refine lv_iconst (v := iZ (1)) hx hb d_Mo_picture_20 rfl ?_
    refine lv_goto (tgt := 44) hx hb d_Mo_picture_21 (by decide) ?_
    refine va_put (D := (dC, dI)) (ci := 6) (v := .int (iZ 1)) (ty := .int) (C := R_Mo) (T := T_Mo) (N := 18) hx hb hts wi_Mo ty_Mo ty_Mo_ok nd_Mo hown hK hP hD hS 0 rfl rfl 0 (by decide) (hts _ t_684) (fun _ h9 => h9) rfl (by decide +kernel) rfl rfl (Nat.le_of_ble_eq_true rfl) d_Mo_picture_44 (fun H locs hP hD hS => ?_)
    have hP : va_P (dC, dI) vwCl [(hm, .inr (6, [.int (iZ 1), .int (iZ w), .int (iZ h), .int (iZ mn), .ref zd, .ref zb, .ref zt, .int (iZ n), .ref zs, .ref zc, .int (iZ fx), .int (iZ fy), .int (iZ fa), .int (iZ fb), .int (iZ fc), .int (iZ qr), .int (iZ fo), .ref zo])), (zd, .inl (cI, 32768, .inl (aI Dk))), (zt, .inl (cI, 4096, .inl (aI Dt))), (zs, .inl (cI, 12, .inl (aI Sz))), (zc, .inl (cI, 32768, .inl (aI Ce))), (zo, .inl (cZ, 5200, .inl (aI Co)))] H := hP
    have hD : va_D A [(hm, .inr (6, [.int (iZ 1), .int (iZ w), .int (iZ h), .int (iZ mn), .ref zd, .ref zb, .ref zt, .int (iZ n), .ref zs, .ref zc, .int (iZ fx), .int (iZ fy), .int (iZ fa), .int (iZ fb), .int (iZ fc), .int (iZ qr), .int (iZ fo), .ref zo])), (zd, .inl (cI, 32768, .inl (aI Dk))), (zt, .inl (cI, 4096, .inl (aI Dt))), (zs, .inl (cI, 12, .inl (aI Sz))), (zc, .inl (cI, 32768, .inl (aI Ce))), (zo, .inl (cZ, 5200, .inl (aI Co)))] := hD
    refine lv_aload_n hx hb d_Mo_picture_47 rfl (lv_at hl 0 rfl) ?_
    refine va_get (D := (dC, dI)) (ci := 6) (v := .int (iZ 1)) (C := R_Mo) (T := T_Mo) (N := 18) hx hb hts wi_Mo hown hK hP 0 rfl rfl 0 (by decide) (hts _ t_684) (fun _ h9 => h9) rfl d_Mo_picture_48 ?_
    refine zi_if_le (tgt := 56) hx hb d_Mo_picture_51 (by decide) (by omega) (by omega) (fun c_51 => ?_) (fun c_51 => ?_)
    · exact absurd c_51 (by omega)
    · refine lv_iconst (v := iZ (0)) hx hb d_Mo_picture_54 rfl ?_
      exact W.iret hx hb hr (fun t ht hW => ⟨⟨_, ((1, Dk, fun k9 => [fx, fy, fa, fb, fc, qr, fo].getD k9 0)), rfl, by first | exact ⟨_, rfl, Or.inr (Or.inl ⟨by omega, rfl, rfl⟩)⟩ | exact ⟨_, rfl, Or.inr (Or.inr ⟨by omega, c_36, rfl, rfl⟩)⟩, by rw [ht]; exact hP, va_K.moved hW.alike hK, hD⟩, hS.F ht⟩) hS.2.2 d_Mo_picture_55
  · have c_6 := of_decide_eq_false c_6
    refine lv_iload_n hx hb d_Mo_picture_9 rfl (lv_at hl 3 rfl) ?_
    refine lv_iconst (v := iZ (1)) hx hb d_Mo_picture_10 rfl ?_
    refine lv_sipush (v := iZ (2048)) hx hb d_Mo_picture_11 (by decide) ?_
    refine vp_callSi (va_runS (As := [.int (iZ bw), .int (iZ 1), .int (iZ 2048)]) (rest := [.ref hm]) ⟨hx, hb, hml, hown, hts⟩ (c_Model_isNot l dC dI bw 1 2048 (by first | omega | assumption) (by first | omega | assumption) (by first | omega | assumption) (by first | omega | assumption) (by first | omega | assumption) (by first | omega | assumption)) (va_cwS 3 hts (gS t_771 t_772 t_6 t_773) rfl rfl rfl (by decide +kernel) ⟨Nat.le_of_ble_eq_true rfl, Nat.le_of_ble_eq_true rfl⟩) ⟨zPr_blind, zPr_pre hP hK [] [] rfl rfl⟩ rfl rfl hl.1 rfl (lv_room (Nat.le_of_ble_eq_true rfl)) d_Mo_picture_14 ⟨Nat.le_of_ble_eq_true rfl, Nat.le_of_ble_eq_true rfl⟩).run (fun r_14 q_14 => ?_)
    obtain rfl := q_14
    refine zb_if_eq (tgt := 24) hx hb d_Mo_picture_17 (by decide) (fun c_17 => ?_) (fun c_17 => ?_)
    · have c_17 := of_decide_eq_false c_17
      refine lv_aload_n hx hb d_Mo_picture_24 rfl (lv_at hl 0 rfl) ?_
      refine va_get (D := (dC, dI)) (ci := 6) (v := .int (iZ n)) (C := R_Mo) (T := T_Mo) (N := 18) hx hb hts wi_Mo hown hK hP 0 rfl rfl 7 (by decide) (hts _ t_691) (fun _ h9 => h9) rfl d_Mo_picture_25 ?_
      refine lv_iload_n hx hb d_Mo_picture_28 rfl (lv_at hl 3 rfl) ?_
      refine lv_bipush (v := iZ (7)) hx hb d_Mo_picture_29 (by decide) ?_
      refine zi_add hx hb d_Mo_picture_31 ?_
      refine lv_bipush (v := iZ (8)) hx hb d_Mo_picture_32 (by decide) ?_
      refine zi_div hx hb d_Mo_picture_34 (by omega) (by omega) (by omega) (by omega) ?_
      have m9 : 0 ≤ n % ((bw + 7) / 8) ∧ n % ((bw + 7) / 8) < (bw + 7) / 8 := ⟨Int.emod_nonneg _ (by omega), Int.emod_lt_of_pos _ (by omega)⟩
      refine zi_rem hx hb d_Mo_picture_35 (by omega) (by omega) (by omega) (by omega) ?_
      refine zi_if_eq (tgt := 43) hx hb d_Mo_picture_36 (by decide) (by omega) (by omega) (fun c_36 => ?_) (fun c_36 => ?_)
      · refine lv_iconst (v := iZ (0)) hx hb d_Mo_picture_43 rfl ?_
        refine va_put (D := (dC, dI)) (ci := 6) (v := .int (iZ 0)) (ty := .int) (C := R_Mo) (T := T_Mo) (N := 18) hx hb hts wi_Mo ty_Mo ty_Mo_ok nd_Mo hown hK hP hD hS 0 rfl rfl 0 (by decide) (hts _ t_684) (fun _ h9 => h9) rfl (by decide +kernel) rfl rfl (Nat.le_of_ble_eq_true rfl) d_Mo_picture_44 (fun H locs hP hD hS => ?_)
        have hP : va_P (dC, dI) vwCl [(hm, .inr (6, [.int (iZ 0), .int (iZ w), .int (iZ h), .int (iZ mn), .ref zd, .ref zb, .ref zt, .int (iZ n), .ref zs, .ref zc, .int (iZ fx), .int (iZ fy), .int (iZ fa), .int (iZ fb), .int (iZ fc), .int (iZ qr), .int (iZ fo), .ref zo])), (zd, .inl (cI, 32768, .inl (aI Dk))), (zt, .inl (cI, 4096, .inl (aI Dt))), (zs, .inl (cI, 12, .inl (aI Sz))), (zc, .inl (cI, 32768, .inl (aI Ce))), (zo, .inl (cZ, 5200, .inl (aI Co)))] H := hP
        have hD : va_D A [(hm, .inr (6, [.int (iZ 0), .int (iZ w), .int (iZ h), .int (iZ mn), .ref zd, .ref zb, .ref zt, .int (iZ n), .ref zs, .ref zc, .int (iZ fx), .int (iZ fy), .int (iZ fa), .int (iZ fb), .int (iZ fc), .int (iZ qr), .int (iZ fo), .ref zo])), (zd, .inl (cI, 32768, .inl (aI Dk))), (zt, .inl (cI, 4096, .inl (aI Dt))), (zs, .inl (cI, 12, .inl (aI Sz))), (zc, .inl (cI, 32768, .inl (aI Ce))), (zo, .inl (cZ, 5200, .inl (aI Co)))] := hD
        refine lv_aload_n hx hb d_Mo_picture_47 rfl (lv_at hl 0 rfl) ?_
        refine va_get (D := (dC, dI)) (ci := 6) (v := .int (iZ 0)) (C := R_Mo) (T := T_Mo) (N := 18) hx hb hts wi_Mo hown hK hP 0 rfl rfl 0 (by decide) (hts _ t_684) (fun _ h9 => h9) rfl d_Mo_picture_48 ?_
        refine zi_if_le (tgt := 56) hx hb d_Mo_picture_51 (by decide) (by omega) (by omega) (fun c_51 => ?_) (fun c_51 => ?_)
        · refine lv_aload_n hx hb d_Mo_picture_56 rfl (lv_at hl 0 rfl) ?_
          refine lv_iload_n hx hb d_Mo_picture_57 rfl (lv_at hl 1 rfl) ?_
          refine lv_iload_n hx hb d_Mo_picture_58 rfl (lv_at hl 2 rfl) ?_
          refine lv_iload_n hx hb d_Mo_picture_59 rfl (lv_at hl 3 rfl) ?_
          refine lv_iconst (v := iZ (0)) hx hb d_Mo_picture_60 rfl ?_
          refine lv_iconst (v := iZ (0)) hx hb d_Mo_picture_61 rfl ?_
          refine zc_v (w1 := fun (u_62 : Unit) => [(hm, .inr (6, [.int (iZ 0), .int (iZ w), .int (iZ h), .int (iZ mn), .ref zd, .ref zb, .ref zt, .int (iZ n), .ref zs, .ref zc, .int (iZ x), .int (iZ y), .int (iZ bw), .int (iZ 0), .int (iZ 0), .int (iZ qr), .int (iZ fo), .ref zo]))]) (wr := [(zd, .inl (cI, 32768, .inl (aI Dk))), (zt, .inl (cI, 4096, .inl (aI Dt))), (zs, .inl (cI, 12, .inl (aI Sz))), (zc, .inl (cI, 32768, .inl (aI Ce))), (zo, .inl (cZ, 5200, .inl (aI Co)))]) (va_runV (As := [.int (iZ x), .int (iZ y), .int (iZ bw), .int (iZ 0), .int (iZ 0)]) (rest := []) ⟨hx, hb, hml, hown, hts⟩ (c_Model_at l dC dI hm zd zb zt zs zc zo 0 w h mn n fx fy fa fb fc qr fo x y bw 0 0 H.size ) (cwV 5 hts (gV t_774 t_776 s_15 t_6 t_777) rfl rfl rfl (by decide +kernel) ⟨Nat.le_of_ble_eq_true rfl, Nat.le_of_ble_eq_true rfl⟩) ⟨zPm_blind, va_recv hK hP (ci := 6) (q0 := 0) rfl rfl, zPm_pre hP hD hK [0] [] rfl rfl rfl rfl⟩ rfl rfl hl.1 rfl (lv_room (Nat.le_of_ble_eq_true rfl)) d_Mo_picture_62 ⟨Nat.le_of_ble_eq_true rfl, Nat.le_of_ble_eq_true rfl⟩) hP hD hS hA [0] [1, 2, 3, 4, 5] rfl rfl rfl (by decide) (fun u_62 H locs q_62 hP hD hS => ?_)
          have hP : va_P (dC, dI) vwCl [(zd, .inl (cI, 32768, .inl (aI Dk))), (zt, .inl (cI, 4096, .inl (aI Dt))), (zs, .inl (cI, 12, .inl (aI Sz))), (zc, .inl (cI, 32768, .inl (aI Ce))), (zo, .inl (cZ, 5200, .inl (aI Co))), (hm, .inr (6, [.int (iZ 0), .int (iZ w), .int (iZ h), .int (iZ mn), .ref zd, .ref zb, .ref zt, .int (iZ n), .ref zs, .ref zc, .int (iZ x), .int (iZ y), .int (iZ bw), .int (iZ 0), .int (iZ 0), .int (iZ qr), .int (iZ fo), .ref zo]))] H := hP
          have hD : va_D A [(zd, .inl (cI, 32768, .inl (aI Dk))), (zt, .inl (cI, 4096, .inl (aI Dt))), (zs, .inl (cI, 12, .inl (aI Sz))), (zc, .inl (cI, 32768, .inl (aI Ce))), (zo, .inl (cZ, 5200, .inl (aI Co))), (hm, .inr (6, [.int (iZ 0), .int (iZ w), .int (iZ h), .int (iZ mn), .ref zd, .ref zb, .ref zt, .int (iZ n), .ref zs, .ref zc, .int (iZ x), .int (iZ y), .int (iZ bw), .int (iZ 0), .int (iZ 0), .int (iZ qr), .int (iZ fo), .ref zo]))] := hD
          refine lv_aload_n hx hb d_Mo_picture_65 rfl (lv_at hl 0 rfl) ?_
          refine lv_bipush (v := iZ (6)) hx hb d_Mo_picture_66 (by decide) ?_
          refine zc_i (w1 := fun (u_68 : Int → Int32) => [(hm, .inr (6, [.int (iZ 0), .int (iZ w), .int (iZ h), .int (iZ mn), .ref zd, .ref zb, .ref zt, .int (iZ n), .ref zs, .ref zc, .int (iZ x), .int (iZ y), .int (iZ bw), .int (iZ 0), .int (iZ 0), .int (iZ qr), .int (iZ fo), .ref zo])), (zd, .inl (cI, 32768, .inl (aI u_68))), (zt, .inl (cI, 4096, .inl (aI Dt))), (zs, .inl (cI, 12, .inl (aI Sz))), (zc, .inl (cI, 32768, .inl (aI Ce))), (zo, .inl (cZ, 5200, .inl (aI Co)))]) (wr := []) (va_runV (As := [.int (iZ 6)]) (rest := []) ⟨hx, hb, hml, hown, hts⟩ (c_Model_draw l dC dI hm zd zb zt zs zc zo 0 w h mn n x y bw 0 0 qr fo cI cZ Dt Sz Ce Co (fun _ => iZ 0) dr (fun _ => false) 0 0 0 (picB dr x y bw ((bw + 7) / 8) (n / ((bw + 7) / 8))) Dk pic 6 H.size (w1) (w2) (h1) (h2) (mn1) (mn2) (hM) (hO) (by omega) (by omega) (by omega) (by omega) (n1) (n2) (hT) (by omega) (by omega) (fun z9 => absurd z9 (by omega)) (fun z9 => absurd z9 (by omega)) (fun z9 => absurd z9 (by omega)) (fun z9 => absurd z9 (by omega)) (fun z9 => absurd z9 (by omega)) (fun z9 => absurd z9 (by omega)) (fun z9 => absurd z9 (by omega)) (fun z9 => absurd z9 (by omega)) (fun z9 => absurd z9 (by omega)) (fun z9 => absurd z9 (by omega)) (fun z9 => absurd z9 (by omega)) (fun _ => by omega) (fun _ => rfl)) (cwV 1 hts (gV t_778 t_780 s_16 t_6 t_781) rfl rfl rfl (by decide +kernel) ⟨Nat.le_of_ble_eq_true rfl, Nat.le_of_ble_eq_true rfl⟩) ⟨zPm_blind, va_recv hK hP (ci := 6) (q0 := 5) rfl rfl, zPm_pre hP hD hK [5, 0, 1, 2, 3, 4] [0, 1] rfl rfl rfl rfl⟩ rfl rfl hl.1 rfl (lv_room (Nat.le_of_ble_eq_true rfl)) d_Mo_picture_68 ⟨Nat.le_of_ble_eq_true rfl, Nat.le_of_ble_eq_true rfl⟩) hP hD hS hA [5, 0, 1, 2, 3, 4] [] rfl rfl rfl (by decide) (fun r_68 u_68 H locs q_68 hP hD hS => ?_)
          have hP : va_P (dC, dI) vwCl [(hm, .inr (6, [.int (iZ 0), .int (iZ w), .int (iZ h), .int (iZ mn), .ref zd, .ref zb, .ref zt, .int (iZ n), .ref zs, .ref zc, .int (iZ x), .int (iZ y), .int (iZ bw), .int (iZ 0), .int (iZ 0), .int (iZ qr), .int (iZ fo), .ref zo])), (zd, .inl (cI, 32768, .inl (aI u_68))), (zt, .inl (cI, 4096, .inl (aI Dt))), (zs, .inl (cI, 12, .inl (aI Sz))), (zc, .inl (cI, 32768, .inl (aI Ce))), (zo, .inl (cZ, 5200, .inl (aI Co)))] H := hP
          have hD : va_D A [(hm, .inr (6, [.int (iZ 0), .int (iZ w), .int (iZ h), .int (iZ mn), .ref zd, .ref zb, .ref zt, .int (iZ n), .ref zs, .ref zc, .int (iZ x), .int (iZ y), .int (iZ bw), .int (iZ 0), .int (iZ 0), .int (iZ qr), .int (iZ fo), .ref zo])), (zd, .inl (cI, 32768, .inl (aI u_68))), (zt, .inl (cI, 4096, .inl (aI Dt))), (zs, .inl (cI, 12, .inl (aI Sz))), (zc, .inl (cI, 32768, .inl (aI Ce))), (zo, .inl (cZ, 5200, .inl (aI Co)))] := hD
          obtain ⟨rfl, q_68⟩ := q_68
          exact W.iret hx hb hr (fun t ht hW => ⟨⟨_, ((0, u_68, fun k9 => [x, y, bw, 0, 0, qr, fo].getD k9 0)), rfl, ⟨_, rfl, Or.inl ⟨by omega, c_36, rfl, rfl, q_68⟩⟩, by rw [ht]; exact hP, va_K.moved hW.alike hK, hD⟩, hS.F ht⟩) hS.2.2 d_Mo_picture_71
        · exact absurd c_51 (by omega)
      · refine lv_iconst (v := iZ (2)) hx hb d_Mo_picture_39 rfl ?_
        refine lv_goto (tgt := 44) hx hb d_Mo_picture_40 (by decide) ?_
        refine va_put (D := (dC, dI)) (ci := 6) (v := .int (iZ 2)) (ty := .int) (C := R_Mo) (T := T_Mo) (N := 18) hx hb hts wi_Mo ty_Mo ty_Mo_ok nd_Mo hown hK hP hD hS 0 rfl rfl 0 (by decide) (hts _ t_684) (fun _ h9 => h9) rfl (by decide +kernel) rfl rfl (Nat.le_of_ble_eq_true rfl) d_Mo_picture_44 (fun H locs hP hD hS => ?_)
        have hP : va_P (dC, dI) vwCl [(hm, .inr (6, [.int (iZ 2), .int (iZ w), .int (iZ h), .int (iZ mn), .ref zd, .ref zb, .ref zt, .int (iZ n), .ref zs, .ref zc, .int (iZ fx), .int (iZ fy), .int (iZ fa), .int (iZ fb), .int (iZ fc), .int (iZ qr), .int (iZ fo), .ref zo])), (zd, .inl (cI, 32768, .inl (aI Dk))), (zt, .inl (cI, 4096, .inl (aI Dt))), (zs, .inl (cI, 12, .inl (aI Sz))), (zc, .inl (cI, 32768, .inl (aI Ce))), (zo, .inl (cZ, 5200, .inl (aI Co)))] H := hP
        have hD : va_D A [(hm, .inr (6, [.int (iZ 2), .int (iZ w), .int (iZ h), .int (iZ mn), .ref zd, .ref zb, .ref zt, .int (iZ n), .ref zs, .ref zc, .int (iZ fx), .int (iZ fy), .int (iZ fa), .int (iZ fb), .int (iZ fc), .int (iZ qr), .int (iZ fo), .ref zo])), (zd, .inl (cI, 32768, .inl (aI Dk))), (zt, .inl (cI, 4096, .inl (aI Dt))), (zs, .inl (cI, 12, .inl (aI Sz))), (zc, .inl (cI, 32768, .inl (aI Ce))), (zo, .inl (cZ, 5200, .inl (aI Co)))] := hD
        refine lv_aload_n hx hb d_Mo_picture_47 rfl (lv_at hl 0 rfl) ?_
        refine va_get (D := (dC, dI)) (ci := 6) (v := .int (iZ 2)) (C := R_Mo) (T := T_Mo) (N := 18) hx hb hts wi_Mo hown hK hP 0 rfl rfl 0 (by decide) (hts _ t_684) (fun _ h9 => h9) rfl d_Mo_picture_48 ?_
        refine zi_if_le (tgt := 56) hx hb d_Mo_picture_51 (by decide) (by omega) (by omega) (fun c_51 => ?_) (fun c_51 => ?_)
        · exact absurd c_51 (by omega)
        · refine lv_iconst (v := iZ (0)) hx hb d_Mo_picture_54 rfl ?_
          exact W.iret hx hb hr (fun t ht hW => ⟨⟨_, ((2, Dk, fun k9 => [fx, fy, fa, fb, fc, qr, fo].getD k9 0)), rfl, by first | exact ⟨_, rfl, Or.inr (Or.inl ⟨by omega, rfl, rfl⟩)⟩ | exact ⟨_, rfl, Or.inr (Or.inr ⟨by omega, c_36, rfl, rfl⟩)⟩, by rw [ht]; exact hP, va_K.moved hW.alike hK, hD⟩, hS.F ht⟩) hS.2.2 d_Mo_picture_55
    · have c_17 := of_decide_eq_true c_17
      refine lv_iconst (v := iZ (1)) hx hb d_Mo_picture_20 rfl ?_
      refine lv_goto (tgt := 44) hx hb d_Mo_picture_21 (by decide) ?_
      refine va_put (D := (dC, dI)) (ci := 6) (v := .int (iZ 1)) (ty := .int) (C := R_Mo) (T := T_Mo) (N := 18) hx hb hts wi_Mo ty_Mo ty_Mo_ok nd_Mo hown hK hP hD hS 0 rfl rfl 0 (by decide) (hts _ t_684) (fun _ h9 => h9) rfl (by decide +kernel) rfl rfl (Nat.le_of_ble_eq_true rfl) d_Mo_picture_44 (fun H locs hP hD hS => ?_)
      have hP : va_P (dC, dI) vwCl [(hm, .inr (6, [.int (iZ 1), .int (iZ w), .int (iZ h), .int (iZ mn), .ref zd, .ref zb, .ref zt, .int (iZ n), .ref zs, .ref zc, .int (iZ fx), .int (iZ fy), .int (iZ fa), .int (iZ fb), .int (iZ fc), .int (iZ qr), .int (iZ fo), .ref zo])), (zd, .inl (cI, 32768, .inl (aI Dk))), (zt, .inl (cI, 4096, .inl (aI Dt))), (zs, .inl (cI, 12, .inl (aI Sz))), (zc, .inl (cI, 32768, .inl (aI Ce))), (zo, .inl (cZ, 5200, .inl (aI Co)))] H := hP
      have hD : va_D A [(hm, .inr (6, [.int (iZ 1), .int (iZ w), .int (iZ h), .int (iZ mn), .ref zd, .ref zb, .ref zt, .int (iZ n), .ref zs, .ref zc, .int (iZ fx), .int (iZ fy), .int (iZ fa), .int (iZ fb), .int (iZ fc), .int (iZ qr), .int (iZ fo), .ref zo])), (zd, .inl (cI, 32768, .inl (aI Dk))), (zt, .inl (cI, 4096, .inl (aI Dt))), (zs, .inl (cI, 12, .inl (aI Sz))), (zc, .inl (cI, 32768, .inl (aI Ce))), (zo, .inl (cZ, 5200, .inl (aI Co)))] := hD
      refine lv_aload_n hx hb d_Mo_picture_47 rfl (lv_at hl 0 rfl) ?_
      refine va_get (D := (dC, dI)) (ci := 6) (v := .int (iZ 1)) (C := R_Mo) (T := T_Mo) (N := 18) hx hb hts wi_Mo hown hK hP 0 rfl rfl 0 (by decide) (hts _ t_684) (fun _ h9 => h9) rfl d_Mo_picture_48 ?_
      refine zi_if_le (tgt := 56) hx hb d_Mo_picture_51 (by decide) (by omega) (by omega) (fun c_51 => ?_) (fun c_51 => ?_)
      · exact absurd c_51 (by omega)
      · refine lv_iconst (v := iZ (0)) hx hb d_Mo_picture_54 rfl ?_
        exact W.iret hx hb hr (fun t ht hW => ⟨⟨_, ((1, Dk, fun k9 => [fx, fy, fa, fb, fc, qr, fo].getD k9 0)), rfl, by first | exact ⟨_, rfl, Or.inr (Or.inl ⟨by omega, rfl, rfl⟩)⟩ | exact ⟨_, rfl, Or.inr (Or.inr ⟨by omega, c_36, rfl, rfl⟩)⟩, by rw [ht]; exact hP, va_K.moved hW.alike hK, hD⟩, hS.F ht⟩) hS.2.2 d_Mo_picture_55
theorem d_Mo_bars_0 : decode c_yMo_bars 0 = .ok (.aload_n 0, 1) := by decide +kernel
theorem d_Mo_bars_1 : decode c_yMo_bars 1 = .ok (.iload_n 1, 1) := by decide +kernel
theorem d_Mo_bars_2 : decode c_yMo_bars 2 = .ok (.iload_n 2, 1) := by decide +kernel
theorem d_Mo_bars_3 : decode c_yMo_bars 3 = .ok (.invokestatic 124, 3) := by decide +kernel
theorem d_Mo_bars_6 : decode c_yMo_bars 6 = .ok (.ifCond .ne 35, 3) := by decide +kernel
theorem d_Mo_bars_9 : decode c_yMo_bars 9 = .ok (.iload_n 3, 1) := by decide +kernel
theorem d_Mo_bars_10 : decode c_yMo_bars 10 = .ok (.iconst 1, 1) := by decide +kernel
theorem d_Mo_bars_11 : decode c_yMo_bars 11 = .ok (.sipush 2048, 3) := by decide +kernel
theorem d_Mo_bars_14 : decode c_yMo_bars 14 = .ok (.invokestatic 121, 3) := by decide +kernel
theorem d_Mo_bars_17 : decode c_yMo_bars 17 = .ok (.ifCond .ne 24, 3) := by decide +kernel
theorem d_Mo_bars_20 : decode c_yMo_bars 20 = .ok (.iload 4, 2) := by decide +kernel
theorem d_Mo_bars_22 : decode c_yMo_bars 22 = .ok (.iconst 1, 1) := by decide +kernel
theorem d_Mo_bars_23 : decode c_yMo_bars 23 = .ok (.bipush 50, 2) := by decide +kernel
theorem d_Mo_bars_25 : decode c_yMo_bars 25 = .ok (.invokestatic 121, 3) := by decide +kernel
theorem d_Mo_bars_28 : decode c_yMo_bars 28 = .ok (.ifCond .ne 13, 3) := by decide +kernel
theorem d_Mo_bars_31 : decode c_yMo_bars 31 = .ok (.iload 5, 2) := by decide +kernel
theorem d_Mo_bars_33 : decode c_yMo_bars 33 = .ok (.iconst 0, 1) := by decide +kernel
theorem d_Mo_bars_34 : decode c_yMo_bars 34 = .ok (.iconst 3, 1) := by decide +kernel
theorem d_Mo_bars_35 : decode c_yMo_bars 35 = .ok (.invokestatic 121, 3) := by decide +kernel
theorem d_Mo_bars_38 : decode c_yMo_bars 38 = .ok (.ifCond .eq 7, 3) := by decide +kernel
theorem d_Mo_bars_41 : decode c_yMo_bars 41 = .ok (.iconst 1, 1) := by decide +kernel
theorem d_Mo_bars_42 : decode c_yMo_bars 42 = .ok (.goto 4, 3) := by decide +kernel
theorem d_Mo_bars_45 : decode c_yMo_bars 45 = .ok (.iconst 0, 1) := by decide +kernel
theorem d_Mo_bars_46 : decode c_yMo_bars 46 = .ok (.putfield 37, 3) := by decide +kernel
theorem d_Mo_bars_49 : decode c_yMo_bars 49 = .ok (.aload_n 0, 1) := by decide +kernel
theorem d_Mo_bars_50 : decode c_yMo_bars 50 = .ok (.getfield 37, 3) := by decide +kernel
theorem d_Mo_bars_53 : decode c_yMo_bars 53 = .ok (.ifCond .le 5, 3) := by decide +kernel
theorem d_Mo_bars_56 : decode c_yMo_bars 56 = .ok (.iconst 0, 1) := by decide +kernel
theorem d_Mo_bars_57 : decode c_yMo_bars 57 = .ok (.ireturn, 1) := by decide +kernel
theorem d_Mo_bars_58 : decode c_yMo_bars 58 = .ok (.iconst (-1), 1) := by decide +kernel
theorem d_Mo_bars_59 : decode c_yMo_bars 59 = .ok (.istore 6, 2) := by decide +kernel
theorem d_Mo_bars_61 : decode c_yMo_bars 61 = .ok (.iconst 0, 1) := by decide +kernel
theorem d_Mo_bars_62 : decode c_yMo_bars 62 = .ok (.istore 7, 2) := by decide +kernel
theorem d_Mo_bars_64 : decode c_yMo_bars 64 = .ok (.iconst 0, 1) := by decide +kernel
theorem d_Mo_bars_65 : decode c_yMo_bars 65 = .ok (.istore 8, 2) := by decide +kernel
theorem d_Mo_bars_67 : decode c_yMo_bars 67 = .ok (.iload 8, 2) := by decide +kernel
theorem d_Mo_bars_69 : decode c_yMo_bars 69 = .ok (.sipush 5200, 3) := by decide +kernel
theorem d_Mo_bars_72 : decode c_yMo_bars 72 = .ok (.if_icmp .ge 97, 3) := by decide +kernel
theorem d_Mo_bars_75 : decode c_yMo_bars 75 = .ok (.iload 7, 2) := by decide +kernel
theorem d_Mo_bars_77 : decode c_yMo_bars 77 = .ok (.ifCond .ne 43, 3) := by decide +kernel
theorem d_Mo_bars_80 : decode c_yMo_bars 80 = .ok (.iload 6, 2) := by decide +kernel
theorem d_Mo_bars_82 : decode c_yMo_bars 82 = .ok (.aload_n 0, 1) := by decide +kernel
theorem d_Mo_bars_83 : decode c_yMo_bars 83 = .ok (.getfield 47, 3) := by decide +kernel
theorem d_Mo_bars_86 : decode c_yMo_bars 86 = .ok (.if_icmp .ge 34, 3) := by decide +kernel
theorem d_Mo_bars_89 : decode c_yMo_bars 89 = .ok (.iinc 6 1, 3) := by decide +kernel
theorem d_Mo_bars_92 : decode c_yMo_bars 92 = .ok (.iload 6, 2) := by decide +kernel
theorem d_Mo_bars_94 : decode c_yMo_bars 94 = .ok (.aload_n 0, 1) := by decide +kernel
theorem d_Mo_bars_95 : decode c_yMo_bars 95 = .ok (.getfield 47, 3) := by decide +kernel
theorem d_Mo_bars_98 : decode c_yMo_bars 98 = .ok (.if_icmp .ge 16, 3) := by decide +kernel
theorem d_Mo_bars_101 : decode c_yMo_bars 101 = .ok (.iload 4, 2) := by decide +kernel
theorem d_Mo_bars_103 : decode c_yMo_bars 103 = .ok (.aload_n 0, 1) := by decide +kernel
theorem d_Mo_bars_104 : decode c_yMo_bars 104 = .ok (.getfield 24, 3) := by decide +kernel
theorem d_Mo_bars_107 : decode c_yMo_bars 107 = .ok (.iload 6, 2) := by decide +kernel
theorem d_Mo_bars_109 : decode c_yMo_bars 109 = .ok (.iaload, 1) := by decide +kernel
theorem d_Mo_bars_110 : decode c_yMo_bars 110 = .ok (.imul, 1) := by decide +kernel
theorem d_Mo_bars_111 : decode c_yMo_bars 111 = .ok (.goto 4, 3) := by decide +kernel
theorem d_Mo_bars_114 : decode c_yMo_bars 114 = .ok (.iconst 0, 1) := by decide +kernel
theorem d_Mo_bars_115 : decode c_yMo_bars 115 = .ok (.istore 7, 2) := by decide +kernel
theorem d_Mo_bars_117 : decode c_yMo_bars 117 = .ok (.goto (-42), 3) := by decide +kernel
theorem d_Mo_bars_120 : decode c_yMo_bars 120 = .ok (.aload_n 0, 1) := by decide +kernel
theorem d_Mo_bars_121 : decode c_yMo_bars 121 = .ok (.getfield 33, 3) := by decide +kernel
theorem d_Mo_bars_124 : decode c_yMo_bars 124 = .ok (.iload 8, 2) := by decide +kernel
theorem d_Mo_bars_126 : decode c_yMo_bars 126 = .ok (.iload 6, 2) := by decide +kernel
theorem d_Mo_bars_128 : decode c_yMo_bars 128 = .ok (.aload_n 0, 1) := by decide +kernel
theorem d_Mo_bars_129 : decode c_yMo_bars 129 = .ok (.getfield 47, 3) := by decide +kernel
theorem d_Mo_bars_132 : decode c_yMo_bars 132 = .ok (.if_icmp .ge 14, 3) := by decide +kernel
theorem d_Mo_bars_135 : decode c_yMo_bars 135 = .ok (.iload 6, 2) := by decide +kernel
theorem d_Mo_bars_137 : decode c_yMo_bars 137 = .ok (.iconst 2, 1) := by decide +kernel
theorem d_Mo_bars_138 : decode c_yMo_bars 138 = .ok (.irem, 1) := by decide +kernel
theorem d_Mo_bars_139 : decode c_yMo_bars 139 = .ok (.ifCond .ne 7, 3) := by decide +kernel
theorem d_Mo_bars_142 : decode c_yMo_bars 142 = .ok (.iconst 1, 1) := by decide +kernel
theorem d_Mo_bars_143 : decode c_yMo_bars 143 = .ok (.goto 4, 3) := by decide +kernel
theorem d_Mo_bars_146 : decode c_yMo_bars 146 = .ok (.iconst 0, 1) := by decide +kernel
theorem d_Mo_bars_147 : decode c_yMo_bars 147 = .ok (.bastore, 1) := by decide +kernel
theorem d_Mo_bars_148 : decode c_yMo_bars 148 = .ok (.iload 7, 2) := by decide +kernel
theorem d_Mo_bars_150 : decode c_yMo_bars 150 = .ok (.ifCond .le 10, 3) := by decide +kernel
theorem d_Mo_bars_153 : decode c_yMo_bars 153 = .ok (.iload 7, 2) := by decide +kernel
theorem d_Mo_bars_155 : decode c_yMo_bars 155 = .ok (.iconst 1, 1) := by decide +kernel
theorem d_Mo_bars_156 : decode c_yMo_bars 156 = .ok (.isub, 1) := by decide +kernel
theorem d_Mo_bars_157 : decode c_yMo_bars 157 = .ok (.goto 4, 3) := by decide +kernel
theorem d_Mo_bars_160 : decode c_yMo_bars 160 = .ok (.iconst 0, 1) := by decide +kernel
theorem d_Mo_bars_161 : decode c_yMo_bars 161 = .ok (.istore 7, 2) := by decide +kernel
theorem d_Mo_bars_163 : decode c_yMo_bars 163 = .ok (.iinc 8 1, 3) := by decide +kernel
theorem d_Mo_bars_166 : decode c_yMo_bars 166 = .ok (.goto (-99), 3) := by decide +kernel
theorem d_Mo_bars_169 : decode c_yMo_bars 169 = .ok (.aload_n 0, 1) := by decide +kernel
theorem d_Mo_bars_170 : decode c_yMo_bars 170 = .ok (.iload_n 1, 1) := by decide +kernel
theorem d_Mo_bars_171 : decode c_yMo_bars 171 = .ok (.iload_n 2, 1) := by decide +kernel
theorem d_Mo_bars_172 : decode c_yMo_bars 172 = .ok (.iconst 0, 1) := by decide +kernel
theorem d_Mo_bars_173 : decode c_yMo_bars 173 = .ok (.iload_n 3, 1) := by decide +kernel
theorem d_Mo_bars_174 : decode c_yMo_bars 174 = .ok (.iconst 0, 1) := by decide +kernel
theorem d_Mo_bars_175 : decode c_yMo_bars 175 = .ok (.invokevirtual 130, 3) := by decide +kernel
theorem d_Mo_bars_178 : decode c_yMo_bars 178 = .ok (.aload_n 0, 1) := by decide +kernel
theorem d_Mo_bars_179 : decode c_yMo_bars 179 = .ok (.iload 5, 2) := by decide +kernel
theorem d_Mo_bars_181 : decode c_yMo_bars 181 = .ok (.putfield 75, 3) := by decide +kernel
theorem d_Mo_bars_184 : decode c_yMo_bars 184 = .ok (.aload_n 0, 1) := by decide +kernel
theorem d_Mo_bars_185 : decode c_yMo_bars 185 = .ok (.iconst 4, 1) := by decide +kernel
theorem d_Mo_bars_186 : decode c_yMo_bars 186 = .ok (.invokevirtual 134, 3) := by decide +kernel
theorem d_Mo_bars_189 : decode c_yMo_bars 189 = .ok (.ireturn, 1) := by decide +kernel
set_option maxHeartbeats 4000000 in
set_option maxRecDepth 100000 in
theorem c_Model_bars (l : Launch) (dC : Nat → ClassId) (dI : Nat → Nat → Nat) (hm zd zb zt zs zc zo : Nat) (tw w h mn n fx fy fa fb fc qr fo : Int) (cI cZ : ClassId) (Dt Sz Ce Co : Int → Int32) (dr : Int → Int) (Dk : Int → Int32) (pic : Int → Int → Bool) (x y bh m_ aq : Int) (sz : Nat) (w1 : 1 ≤ w) (w2 : w ≤ 1024) (h1 : 1 ≤ h) (h2 : h ≤ 1024) (mn1 : 0 ≤ mn) (mn2 : mn ≤ 2) (hM : RepM Dk pic) (hO : Off w h pic) (n1 : 0 ≤ n) (n2 : n ≤ 4096) (hT : RepT Dt n dr) (hd0 : ∀ k, 0 ≤ dr k ∧ dr k ≤ 255) (x1 : -2147483648 ≤ x) (y1 : -2147483648 ≤ y) (bh1 : -2147483648 ≤ bh) (m_1 : -2147483648 ≤ m_) (aq1 : -2147483648 ≤ aq) (x2 : x ≤ 2147483647) (y2 : y ≤ 2147483647) (bh2 : bh ≤ 2147483647) (m_2 : m_ ≤ 2147483647) (aq2 : aq ≤ 2147483647) : Met l y_Mo_bars w_Mo_bars ({ frames := 4, cells := 0, slots := 0, locals := 106 }) (va_Pc [.ref hm, .int (iZ x), .int (iZ y), .int (iZ bh), .int (iZ m_), .int (iZ aq)] (zPm (dC, dI) vwCl [(hm, .inr (6, [.int (iZ tw), .int (iZ w), .int (iZ h), .int (iZ mn), .ref zd, .ref zb, .ref zt, .int (iZ n), .ref zs, .ref zc, .int (iZ fx), .int (iZ fy), .int (iZ fa), .int (iZ fb), .int (iZ fc), .int (iZ qr), .int (iZ fo), .ref zo])), (zd, .inl (cI, 32768, .inl (aI Dk))), (zt, .inl (cI, 4096, .inl (aI Dt))), (zs, .inl (cI, 12, .inl (aI Sz))), (zc, .inl (cI, 32768, .inl (aI Ce))), (zo, .inl (cZ, 5200, .inl (aI Co)))] [(cI, .int), (cZ, .boolean)] sz)) (va_Qi (fun (r : Int32) (u : Int × (Int → Int32) × (Nat → Int) × (Int → Int32)) => ∃ z : Int, r = iZ z ∧ (((-4096 ≤ x ∧ x ≤ 4096 ∧ -4096 ≤ y ∧ y ≤ 4096 ∧ 0 ≤ aq ∧ aq ≤ 3 ∧ 1 ≤ bh ∧ bh ≤ 2048 ∧ 1 ≤ m_ ∧ m_ ≤ 50) ∧ u.1 = 0 ∧ z = cnt w h (baB dr aq x y bh m_ n.toNat) ∧ RepM u.2.1 (drw mn (fun px py => onB w h px py && baB dr aq x y bh m_ n.toNat px py) pic)) ∨ (¬ (-4096 ≤ x ∧ x ≤ 4096 ∧ -4096 ≤ y ∧ y ≤ 4096 ∧ 0 ≤ aq ∧ aq ≤ 3 ∧ 1 ≤ bh ∧ bh ≤ 2048 ∧ 1 ≤ m_ ∧ m_ ≤ 50) ∧ u.1 = 1 ∧ u.2.1 = Dk))) (fun u => zB (dC, dI) vwCl [(cI, .int), (cZ, .boolean)] (va_A [(hm, .inr (6, [.int (iZ tw), .int (iZ w), .int (iZ h), .int (iZ mn), .ref zd, .ref zb, .ref zt, .int (iZ n), .ref zs, .ref zc, .int (iZ fx), .int (iZ fy), .int (iZ fa), .int (iZ fb), .int (iZ fc), .int (iZ qr), .int (iZ fo), .ref zo])), (zd, .inl (cI, 32768, .inl (aI Dk))), (zt, .inl (cI, 4096, .inl (aI Dt))), (zs, .inl (cI, 12, .inl (aI Sz))), (zc, .inl (cI, 32768, .inl (aI Ce))), (zo, .inl (cZ, 5200, .inl (aI Co)))] sz) [(hm, .inr (6, [.int (iZ u.1), .int (iZ w), .int (iZ h), .int (iZ mn), .ref zd, .ref zb, .ref zt, .int (iZ n), .ref zs, .ref zc, .int (iZ ((u.2.2.1 0))), .int (iZ ((u.2.2.1 1))), .int (iZ ((u.2.2.1 2))), .int (iZ ((u.2.2.1 3))), .int (iZ ((u.2.2.1 4))), .int (iZ ((u.2.2.1 5))), .int (iZ ((u.2.2.1 6))), .ref zo])), (zd, .inl (cI, 32768, .inl (aI u.2.1))), (zt, .inl (cI, 4096, .inl (aI Dt))), (zs, .inl (cI, 12, .inl (aI Sz))), (zc, .inl (cI, 32768, .inl (aI Ce))), (zo, .inl (cZ, 5200, .inl (aI u.2.2.2)))]) (va_A [(hm, .inr (6, [.int (iZ tw), .int (iZ w), .int (iZ h), .int (iZ mn), .ref zd, .ref zb, .ref zt, .int (iZ n), .ref zs, .ref zc, .int (iZ fx), .int (iZ fy), .int (iZ fa), .int (iZ fb), .int (iZ fc), .int (iZ qr), .int (iZ fo), .ref zo])), (zd, .inl (cI, 32768, .inl (aI Dk))), (zt, .inl (cI, 4096, .inl (aI Dt))), (zs, .inl (cI, 12, .inl (aI Sz))), (zc, .inl (cI, 32768, .inl (aI Ce))), (zo, .inl (cZ, 5200, .inl (aI Co)))] sz)) 0 0 (va_A [(hm, .inr (6, [.int (iZ tw), .int (iZ w), .int (iZ h), .int (iZ mn), .ref zd, .ref zb, .ref zt, .int (iZ n), .ref zs, .ref zc, .int (iZ fx), .int (iZ fy), .int (iZ fa), .int (iZ fb), .int (iZ fc), .int (iZ qr), .int (iZ fo), .ref zo])), (zd, .inl (cI, 32768, .inl (aI Dk))), (zt, .inl (cI, 4096, .inl (aI Dt))), (zs, .inl (cI, 12, .inl (aI Sz))), (zc, .inl (cI, 32768, .inl (aI Ce))), (zo, .inl (cZ, 5200, .inl (aI Co)))] sz) := by
  refine Met.ofW (cc := c_yMo_bars) (maxL := 9) (ret := (some .int)) (by decide) rfl ?_
  intro p e s m args below meth c s₁ B hml hv
  obtain ⟨rfl, hsz, hP, hK, hD0⟩ := hv
  have hx := B.exec
  have hb := B.bytes
  have hr := B.returns
  have hts0 := atoms_spec (ws := w_Mo_bars) B.pre
  have hts : ∀ w ∈ gT, w.before _ s = true := fun w h => hts0 w (List.mem_cons_of_mem _ h)
  have hown : s.vm.findClass R_Mo = some m.cls := findClass_of_methodNamed B.named
  have hlocks := B.notSynchronized
  subst hsz
  have hD := hD0.self (sz := s.heap.size)
  generalize hAe : va_A [(hm, .inr (6, [.int (iZ tw), .int (iZ w), .int (iZ h), .int (iZ mn), .ref zd, .ref zb, .ref zt, .int (iZ n), .ref zs, .ref zc, .int (iZ fx), .int (iZ fy), .int (iZ fa), .int (iZ fb), .int (iZ fc), .int (iZ qr), .int (iZ fo), .ref zo])), (zd, .inl (cI, 32768, .inl (aI Dk))), (zt, .inl (cI, 4096, .inl (aI Dt))), (zs, .inl (cI, 12, .inl (aI Sz))), (zc, .inl (cI, 32768, .inl (aI Ce))), (zo, .inl (cZ, 5200, .inl (aI Co)))] s.heap.size = A at hD ⊢
  have hA : ∀ q : Nat, s.heap.size ≤ q → A q := fun q h => by rw [← hAe]; exact Or.inr h
  obtain ⟨H, hH⟩ : ∃ H, s.heap = H := ⟨_, rfl⟩
  have hS : va_S A s.heap H [] := by rw [← hH]; exact va_S.rf
  rw [hH] at hP
  rw [hH]
  have hl := lv_entry ([.ref hm, .int (iZ x), .int (iZ y), .int (iZ bh), .int (iZ m_), .int (iZ aq)]) (n := 9) (Nat.le_of_ble_eq_true rfl)
  rw [lg_entry_eq]
  generalize (lg_sl ([.ref hm, .int (iZ x), .int (iZ y), .int (iZ bh), .int (iZ m_), .int (iZ aq)]) ++ List.replicate (9 - (lg_sl ([.ref hm, .int (iZ x), .int (iZ y), .int (iZ bh), .int (iZ m_), .int (iZ aq)])).length) Slot.unset).toArray = ls at hl ⊢
  have hl : lv_has ls 9 [(0, .ref hm), (1, .int (iZ x)), (2, .int (iZ y)), (3, .int (iZ bh)), (4, .int (iZ m_)), (5, .int (iZ aq))] := hl
  refine lv_aload_n hx hb d_Mo_bars_0 rfl (lv_at hl 0 rfl) ?_
  refine lv_iload_n hx hb d_Mo_bars_1 rfl (lv_at hl 1 rfl) ?_
  refine lv_iload_n hx hb d_Mo_bars_2 rfl (lv_at hl 2 rfl) ?_
  refine vp_callSi (va_runS (As := [.int (iZ x), .int (iZ y)]) (rest := [.ref hm]) ⟨hx, hb, hml, hown, hts⟩ (c_Model_noPlace l dC dI x y (by first | omega | assumption) (by first | omega | assumption) (by first | omega | assumption) (by first | omega | assumption)) (va_cwS 2 hts (gS t_765 t_766 t_6 t_767) rfl rfl rfl (by decide +kernel) ⟨Nat.le_of_ble_eq_true rfl, Nat.le_of_ble_eq_true rfl⟩) ⟨zPr_blind, zPr_pre hP hK [] [] rfl rfl⟩ rfl rfl hl.1 rfl (lv_room (Nat.le_of_ble_eq_true rfl)) d_Mo_bars_3 ⟨Nat.le_of_ble_eq_true rfl, Nat.le_of_ble_eq_true rfl⟩).run (fun r_3 q_3 => ?_)
  obtain rfl := q_3
  refine zb_if_ne (tgt := 41) hx hb d_Mo_bars_6 (by decide) (fun c_6 => ?_) (fun c_6 => ?_)
  · have c_6 := of_decide_eq_true c_6
    refine lv_iconst (v := iZ (1)) hx hb d_Mo_bars_41 rfl ?_
    refine lv_goto (tgt := 46) hx hb d_Mo_bars_42 (by decide) ?_
    refine va_put (D := (dC, dI)) (ci := 6) (v := .int (iZ 1)) (ty := .int) (C := R_Mo) (T := T_Mo) (N := 18) hx hb hts wi_Mo ty_Mo ty_Mo_ok nd_Mo hown hK hP hD hS 0 rfl rfl 0 (by decide) (hts _ t_684) (fun _ h9 => h9) rfl (by decide +kernel) rfl rfl (Nat.le_of_ble_eq_true rfl) d_Mo_bars_46 (fun H locs hP hD hS => ?_)
    have hP : va_P (dC, dI) vwCl [(hm, .inr (6, [.int (iZ 1), .int (iZ w), .int (iZ h), .int (iZ mn), .ref zd, .ref zb, .ref zt, .int (iZ n), .ref zs, .ref zc, .int (iZ fx), .int (iZ fy), .int (iZ fa), .int (iZ fb), .int (iZ fc), .int (iZ qr), .int (iZ fo), .ref zo])), (zd, .inl (cI, 32768, .inl (aI Dk))), (zt, .inl (cI, 4096, .inl (aI Dt))), (zs, .inl (cI, 12, .inl (aI Sz))), (zc, .inl (cI, 32768, .inl (aI Ce))), (zo, .inl (cZ, 5200, .inl (aI Co)))] H := hP
    have hD : va_D A [(hm, .inr (6, [.int (iZ 1), .int (iZ w), .int (iZ h), .int (iZ mn), .ref zd, .ref zb, .ref zt, .int (iZ n), .ref zs, .ref zc, .int (iZ fx), .int (iZ fy), .int (iZ fa), .int (iZ fb), .int (iZ fc), .int (iZ qr), .int (iZ fo), .ref zo])), (zd, .inl (cI, 32768, .inl (aI Dk))), (zt, .inl (cI, 4096, .inl (aI Dt))), (zs, .inl (cI, 12, .inl (aI Sz))), (zc, .inl (cI, 32768, .inl (aI Ce))), (zo, .inl (cZ, 5200, .inl (aI Co)))] := hD
    refine lv_aload_n hx hb d_Mo_bars_49 rfl (lv_at hl 0 rfl) ?_
    refine va_get (D := (dC, dI)) (ci := 6) (v := .int (iZ 1)) (C := R_Mo) (T := T_Mo) (N := 18) hx hb hts wi_Mo hown hK hP 0 rfl rfl 0 (by decide) (hts _ t_684) (fun _ h9 => h9) rfl d_Mo_bars_50 ?_
    refine zi_if_le (tgt := 58) hx hb d_Mo_bars_53 (by decide) (by omega) (by omega) (fun c_53 => ?_) (fun c_53 => ?_)
    · exact absurd c_53 (by omega)
    · refine lv_iconst (v := iZ (0)) hx hb d_Mo_bars_56 rfl ?_
      exact W.iret hx hb hr (fun t ht hW => ⟨⟨_, ((1, Dk, fun k9 => [fx, fy, fa, fb, fc, qr, fo].getD k9 0, Co)), rfl, ⟨_, rfl, Or.inr ⟨by omega, rfl, rfl⟩⟩, by rw [ht]; exact hP, va_K.moved hW.alike hK, hD⟩, hS.F ht⟩) hS.2.2 d_Mo_bars_57
  · have c_6 := of_decide_eq_false c_6
    refine lv_iload_n hx hb d_Mo_bars_9 rfl (lv_at hl 3 rfl) ?_
    refine lv_iconst (v := iZ (1)) hx hb d_Mo_bars_10 rfl ?_
    refine lv_sipush (v := iZ (2048)) hx hb d_Mo_bars_11 (by decide) ?_
    refine vp_callSi (va_runS (As := [.int (iZ bh), .int (iZ 1), .int (iZ 2048)]) (rest := [.ref hm]) ⟨hx, hb, hml, hown, hts⟩ (c_Model_isNot l dC dI bh 1 2048 (by first | omega | assumption) (by first | omega | assumption) (by first | omega | assumption) (by first | omega | assumption) (by first | omega | assumption) (by first | omega | assumption)) (va_cwS 3 hts (gS t_771 t_772 t_6 t_773) rfl rfl rfl (by decide +kernel) ⟨Nat.le_of_ble_eq_true rfl, Nat.le_of_ble_eq_true rfl⟩) ⟨zPr_blind, zPr_pre hP hK [] [] rfl rfl⟩ rfl rfl hl.1 rfl (lv_room (Nat.le_of_ble_eq_true rfl)) d_Mo_bars_14 ⟨Nat.le_of_ble_eq_true rfl, Nat.le_of_ble_eq_true rfl⟩).run (fun r_14 q_14 => ?_)
    obtain rfl := q_14
    refine zb_if_ne (tgt := 41) hx hb d_Mo_bars_17 (by decide) (fun c_17 => ?_) (fun c_17 => ?_)
    · have c_17 := of_decide_eq_true c_17
      refine lv_iconst (v := iZ (1)) hx hb d_Mo_bars_41 rfl ?_
      refine lv_goto (tgt := 46) hx hb d_Mo_bars_42 (by decide) ?_
      refine va_put (D := (dC, dI)) (ci := 6) (v := .int (iZ 1)) (ty := .int) (C := R_Mo) (T := T_Mo) (N := 18) hx hb hts wi_Mo ty_Mo ty_Mo_ok nd_Mo hown hK hP hD hS 0 rfl rfl 0 (by decide) (hts _ t_684) (fun _ h9 => h9) rfl (by decide +kernel) rfl rfl (Nat.le_of_ble_eq_true rfl) d_Mo_bars_46 (fun H locs hP hD hS => ?_)
      have hP : va_P (dC, dI) vwCl [(hm, .inr (6, [.int (iZ 1), .int (iZ w), .int (iZ h), .int (iZ mn), .ref zd, .ref zb, .ref zt, .int (iZ n), .ref zs, .ref zc, .int (iZ fx), .int (iZ fy), .int (iZ fa), .int (iZ fb), .int (iZ fc), .int (iZ qr), .int (iZ fo), .ref zo])), (zd, .inl (cI, 32768, .inl (aI Dk))), (zt, .inl (cI, 4096, .inl (aI Dt))), (zs, .inl (cI, 12, .inl (aI Sz))), (zc, .inl (cI, 32768, .inl (aI Ce))), (zo, .inl (cZ, 5200, .inl (aI Co)))] H := hP
      have hD : va_D A [(hm, .inr (6, [.int (iZ 1), .int (iZ w), .int (iZ h), .int (iZ mn), .ref zd, .ref zb, .ref zt, .int (iZ n), .ref zs, .ref zc, .int (iZ fx), .int (iZ fy), .int (iZ fa), .int (iZ fb), .int (iZ fc), .int (iZ qr), .int (iZ fo), .ref zo])), (zd, .inl (cI, 32768, .inl (aI Dk))), (zt, .inl (cI, 4096, .inl (aI Dt))), (zs, .inl (cI, 12, .inl (aI Sz))), (zc, .inl (cI, 32768, .inl (aI Ce))), (zo, .inl (cZ, 5200, .inl (aI Co)))] := hD
      refine lv_aload_n hx hb d_Mo_bars_49 rfl (lv_at hl 0 rfl) ?_
      refine va_get (D := (dC, dI)) (ci := 6) (v := .int (iZ 1)) (C := R_Mo) (T := T_Mo) (N := 18) hx hb hts wi_Mo hown hK hP 0 rfl rfl 0 (by decide) (hts _ t_684) (fun _ h9 => h9) rfl d_Mo_bars_50 ?_
      refine zi_if_le (tgt := 58) hx hb d_Mo_bars_53 (by decide) (by omega) (by omega) (fun c_53 => ?_) (fun c_53 => ?_)
      · exact absurd c_53 (by omega)
      · refine lv_iconst (v := iZ (0)) hx hb d_Mo_bars_56 rfl ?_
        exact W.iret hx hb hr (fun t ht hW => ⟨⟨_, ((1, Dk, fun k9 => [fx, fy, fa, fb, fc, qr, fo].getD k9 0, Co)), rfl, ⟨_, rfl, Or.inr ⟨by omega, rfl, rfl⟩⟩, by rw [ht]; exact hP, va_K.moved hW.alike hK, hD⟩, hS.F ht⟩) hS.2.2 d_Mo_bars_57
    · have c_17 := of_decide_eq_false c_17
      refine lv_iload hx hb d_Mo_bars_20 (lv_at hl 4 rfl) ?_
      refine lv_iconst (v := iZ (1)) hx hb d_Mo_bars_22 rfl ?_
      refine lv_bipush (v := iZ (50)) hx hb d_Mo_bars_23 (by decide) ?_
      refine vp_callSi (va_runS (As := [.int (iZ m_), .int (iZ 1), .int (iZ 50)]) (rest := [.ref hm]) ⟨hx, hb, hml, hown, hts⟩ (c_Model_isNot l dC dI m_ 1 50 (by first | omega | assumption) (by first | omega | assumption) (by first | omega | assumption) (by first | omega | assumption) (by first | omega | assumption) (by first | omega | assumption)) (va_cwS 3 hts (gS t_771 t_772 t_6 t_773) rfl rfl rfl (by decide +kernel) ⟨Nat.le_of_ble_eq_true rfl, Nat.le_of_ble_eq_true rfl⟩) ⟨zPr_blind, zPr_pre hP hK [] [] rfl rfl⟩ rfl rfl hl.1 rfl (lv_room (Nat.le_of_ble_eq_true rfl)) d_Mo_bars_25 ⟨Nat.le_of_ble_eq_true rfl, Nat.le_of_ble_eq_true rfl⟩).run (fun r_25 q_25 => ?_)
      obtain rfl := q_25
      refine zb_if_ne (tgt := 41) hx hb d_Mo_bars_28 (by decide) (fun c_28 => ?_) (fun c_28 => ?_)
      · have c_28 := of_decide_eq_true c_28
        refine lv_iconst (v := iZ (1)) hx hb d_Mo_bars_41 rfl ?_
        refine lv_goto (tgt := 46) hx hb d_Mo_bars_42 (by decide) ?_
        refine va_put (D := (dC, dI)) (ci := 6) (v := .int (iZ 1)) (ty := .int) (C := R_Mo) (T := T_Mo) (N := 18) hx hb hts wi_Mo ty_Mo ty_Mo_ok nd_Mo hown hK hP hD hS 0 rfl rfl 0 (by decide) (hts _ t_684) (fun _ h9 => h9) rfl (by decide +kernel) rfl rfl (Nat.le_of_ble_eq_true rfl) d_Mo_bars_46 (fun H locs hP hD hS => ?_)
        have hP : va_P (dC, dI) vwCl [(hm, .inr (6, [.int (iZ 1), .int (iZ w), .int (iZ h), .int (iZ mn), .ref zd, .ref zb, .ref zt, .int (iZ n), .ref zs, .ref zc, .int (iZ fx), .int (iZ fy), .int (iZ fa), .int (iZ fb), .int (iZ fc), .int (iZ qr), .int (iZ fo), .ref zo])), (zd, .inl (cI, 32768, .inl (aI Dk))), (zt, .inl (cI, 4096, .inl (aI Dt))), (zs, .inl (cI, 12, .inl (aI Sz))), (zc, .inl (cI, 32768, .inl (aI Ce))), (zo, .inl (cZ, 5200, .inl (aI Co)))] H := hP
        have hD : va_D A [(hm, .inr (6, [.int (iZ 1), .int (iZ w), .int (iZ h), .int (iZ mn), .ref zd, .ref zb, .ref zt, .int (iZ n), .ref zs, .ref zc, .int (iZ fx), .int (iZ fy), .int (iZ fa), .int (iZ fb), .int (iZ fc), .int (iZ qr), .int (iZ fo), .ref zo])), (zd, .inl (cI, 32768, .inl (aI Dk))), (zt, .inl (cI, 4096, .inl (aI Dt))), (zs, .inl (cI, 12, .inl (aI Sz))), (zc, .inl (cI, 32768, .inl (aI Ce))), (zo, .inl (cZ, 5200, .inl (aI Co)))] := hD
        refine lv_aload_n hx hb d_Mo_bars_49 rfl (lv_at hl 0 rfl) ?_
        refine va_get (D := (dC, dI)) (ci := 6) (v := .int (iZ 1)) (C := R_Mo) (T := T_Mo) (N := 18) hx hb hts wi_Mo hown hK hP 0 rfl rfl 0 (by decide) (hts _ t_684) (fun _ h9 => h9) rfl d_Mo_bars_50 ?_
        refine zi_if_le (tgt := 58) hx hb d_Mo_bars_53 (by decide) (by omega) (by omega) (fun c_53 => ?_) (fun c_53 => ?_)
        · exact absurd c_53 (by omega)
        · refine lv_iconst (v := iZ (0)) hx hb d_Mo_bars_56 rfl ?_
          exact W.iret hx hb hr (fun t ht hW => ⟨⟨_, ((1, Dk, fun k9 => [fx, fy, fa, fb, fc, qr, fo].getD k9 0, Co)), rfl, ⟨_, rfl, Or.inr ⟨by omega, rfl, rfl⟩⟩, by rw [ht]; exact hP, va_K.moved hW.alike hK, hD⟩, hS.F ht⟩) hS.2.2 d_Mo_bars_57
      · have c_28 := of_decide_eq_false c_28
        refine lv_iload hx hb d_Mo_bars_31 (lv_at hl 5 rfl) ?_
        refine lv_iconst (v := iZ (0)) hx hb d_Mo_bars_33 rfl ?_
        refine lv_iconst (v := iZ (3)) hx hb d_Mo_bars_34 rfl ?_
        refine vp_callSi (va_runS (As := [.int (iZ aq), .int (iZ 0), .int (iZ 3)]) (rest := [.ref hm]) ⟨hx, hb, hml, hown, hts⟩ (c_Model_isNot l dC dI aq 0 3 (by first | omega | assumption) (by first | omega | assumption) (by first | omega | assumption) (by first | omega | assumption) (by first | omega | assumption) (by first | omega | assumption)) (va_cwS 3 hts (gS t_771 t_772 t_6 t_773) rfl rfl rfl (by decide +kernel) ⟨Nat.le_of_ble_eq_true rfl, Nat.le_of_ble_eq_true rfl⟩) ⟨zPr_blind, zPr_pre hP hK [] [] rfl rfl⟩ rfl rfl hl.1 rfl (lv_room (Nat.le_of_ble_eq_true rfl)) d_Mo_bars_35 ⟨Nat.le_of_ble_eq_true rfl, Nat.le_of_ble_eq_true rfl⟩).run (fun r_35 q_35 => ?_)
        obtain rfl := q_35
        refine zb_if_eq (tgt := 45) hx hb d_Mo_bars_38 (by decide) (fun c_38 => ?_) (fun c_38 => ?_)
        · have c_38 := of_decide_eq_false c_38
          refine lv_iconst (v := iZ (0)) hx hb d_Mo_bars_45 rfl ?_
          refine va_put (D := (dC, dI)) (ci := 6) (v := .int (iZ 0)) (ty := .int) (C := R_Mo) (T := T_Mo) (N := 18) hx hb hts wi_Mo ty_Mo ty_Mo_ok nd_Mo hown hK hP hD hS 0 rfl rfl 0 (by decide) (hts _ t_684) (fun _ h9 => h9) rfl (by decide +kernel) rfl rfl (Nat.le_of_ble_eq_true rfl) d_Mo_bars_46 (fun H locs hP hD hS => ?_)
          have hP : va_P (dC, dI) vwCl [(hm, .inr (6, [.int (iZ 0), .int (iZ w), .int (iZ h), .int (iZ mn), .ref zd, .ref zb, .ref zt, .int (iZ n), .ref zs, .ref zc, .int (iZ fx), .int (iZ fy), .int (iZ fa), .int (iZ fb), .int (iZ fc), .int (iZ qr), .int (iZ fo), .ref zo])), (zd, .inl (cI, 32768, .inl (aI Dk))), (zt, .inl (cI, 4096, .inl (aI Dt))), (zs, .inl (cI, 12, .inl (aI Sz))), (zc, .inl (cI, 32768, .inl (aI Ce))), (zo, .inl (cZ, 5200, .inl (aI Co)))] H := hP
          have hD : va_D A [(hm, .inr (6, [.int (iZ 0), .int (iZ w), .int (iZ h), .int (iZ mn), .ref zd, .ref zb, .ref zt, .int (iZ n), .ref zs, .ref zc, .int (iZ fx), .int (iZ fy), .int (iZ fa), .int (iZ fb), .int (iZ fc), .int (iZ qr), .int (iZ fo), .ref zo])), (zd, .inl (cI, 32768, .inl (aI Dk))), (zt, .inl (cI, 4096, .inl (aI Dt))), (zs, .inl (cI, 12, .inl (aI Sz))), (zc, .inl (cI, 32768, .inl (aI Ce))), (zo, .inl (cZ, 5200, .inl (aI Co)))] := hD
          refine lv_aload_n hx hb d_Mo_bars_49 rfl (lv_at hl 0 rfl) ?_
          refine va_get (D := (dC, dI)) (ci := 6) (v := .int (iZ 0)) (C := R_Mo) (T := T_Mo) (N := 18) hx hb hts wi_Mo hown hK hP 0 rfl rfl 0 (by decide) (hts _ t_684) (fun _ h9 => h9) rfl d_Mo_bars_50 ?_
          refine zi_if_le (tgt := 58) hx hb d_Mo_bars_53 (by decide) (by omega) (by omega) (fun c_53 => ?_) (fun c_53 => ?_)
          · have hd2 : ∀ k, 0 ≤ m_ * dr k := fun k => Int.mul_nonneg (by omega) (hd0 k).1
            refine lv_iconst (v := iZ (-1)) hx hb d_Mo_bars_58 rfl ?_
            refine zn_z (fun v6_59 e_v6_59 => ?_)
            refine lv_istore (lv' := [(6, .int (iZ v6_59)), (0, .ref hm), (1, .int (iZ x)), (2, .int (iZ y)), (3, .int (iZ bh)), (4, .int (iZ m_)), (5, .int (iZ aq))]) hx hb d_Mo_bars_59 hl (by decide) rfl (fun ls hl => ?_)
            refine lv_iconst (v := iZ (0)) hx hb d_Mo_bars_61 rfl ?_
            refine lv_istore (lv' := [(7, .int (iZ 0)), (6, .int (iZ v6_59)), (0, .ref hm), (1, .int (iZ x)), (2, .int (iZ y)), (3, .int (iZ bh)), (4, .int (iZ m_)), (5, .int (iZ aq))]) hx hb d_Mo_bars_62 hl (by decide) rfl (fun ls hl => ?_)
            refine lv_iconst (v := iZ (0)) hx hb d_Mo_bars_64 rfl ?_
            refine lv_istore (lv' := [(8, .int (iZ 0)), (7, .int (iZ 0)), (6, .int (iZ v6_59)), (0, .ref hm), (1, .int (iZ x)), (2, .int (iZ y)), (3, .int (iZ bh)), (4, .int (iZ m_)), (5, .int (iZ aq))]) hx hb d_Mo_bars_65 hl (by decide) rfl (fun ls hl => ?_)
            have LP_67 : ∀ (n_67 : Nat) (i : Int) (k_ : Int) (lf : Int) (C1 : Int → Int32), (0 ≤ i) → (i ≤ 5200) → (bkI dr m_ n i k_ lf) → (∀ j : Int, 0 ≤ j → j < i → C1 j = bI (brN dr m_ n.toNat j)) → (lf ≤ 12750) → (5200 - i).toNat < n_67 → ∀ (H : Heap) (locs : List Loc), va_P (dC, dI) vwCl [(hm, .inr (6, [.int (iZ 0), .int (iZ w), .int (iZ h), .int (iZ mn), .ref zd, .ref zb, .ref zt, .int (iZ n), .ref zs, .ref zc, .int (iZ fx), .int (iZ fy), .int (iZ fa), .int (iZ fb), .int (iZ fc), .int (iZ qr), .int (iZ fo), .ref zo])), (zd, .inl (cI, 32768, .inl (aI Dk))), (zt, .inl (cI, 4096, .inl (aI Dt))), (zs, .inl (cI, 12, .inl (aI Sz))), (zc, .inl (cI, 32768, .inl (aI Ce))), (zo, .inl (cZ, 5200, .inl (aI C1)))] H → va_D A [(hm, .inr (6, [.int (iZ 0), .int (iZ w), .int (iZ h), .int (iZ mn), .ref zd, .ref zb, .ref zt, .int (iZ n), .ref zs, .ref zc, .int (iZ fx), .int (iZ fy), .int (iZ fa), .int (iZ fb), .int (iZ fc), .int (iZ qr), .int (iZ fo), .ref zo])), (zd, .inl (cI, 32768, .inl (aI Dk))), (zt, .inl (cI, 4096, .inl (aI Dt))), (zs, .inl (cI, 12, .inl (aI Sz))), (zc, .inl (cI, 32768, .inl (aI Ce))), (zo, .inl (cZ, 5200, .inl (aI C1)))] → va_S A s.heap H locs → ∀ (ls : Array Slot), lv_has ls 9 [(0, .ref hm), (1, .int (iZ x)), (2, .int (iZ y)), (3, .int (iZ bh)), (4, .int (iZ m_)), (5, .int (iZ aq)), (6, .int (iZ k_)), (7, .int (iZ lf)), (8, .int (iZ i))] → W p l e ({ frames := 4, cells := 0, slots := 0, locals := 106 } : Room) s m ([.ref hm, .int (iZ x), .int (iZ y), .int (iZ bh), .int (iZ m_), .int (iZ aq)] : List Value).toArray below meth c H locs 0 0 (MQ below (va_Qi (fun (r : Int32) (u : Int × (Int → Int32) × (Nat → Int) × (Int → Int32)) => ∃ z : Int, r = iZ z ∧ (((-4096 ≤ x ∧ x ≤ 4096 ∧ -4096 ≤ y ∧ y ≤ 4096 ∧ 0 ≤ aq ∧ aq ≤ 3 ∧ 1 ≤ bh ∧ bh ≤ 2048 ∧ 1 ≤ m_ ∧ m_ ≤ 50) ∧ u.1 = 0 ∧ z = cnt w h (baB dr aq x y bh m_ n.toNat) ∧ RepM u.2.1 (drw mn (fun px py => onB w h px py && baB dr aq x y bh m_ n.toNat px py) pic)) ∨ (¬ (-4096 ≤ x ∧ x ≤ 4096 ∧ -4096 ≤ y ∧ y ≤ 4096 ∧ 0 ≤ aq ∧ aq ≤ 3 ∧ 1 ≤ bh ∧ bh ≤ 2048 ∧ 1 ≤ m_ ∧ m_ ≤ 50) ∧ u.1 = 1 ∧ u.2.1 = Dk))) (fun u => zB (dC, dI) vwCl [(cI, .int), (cZ, .boolean)] A [(hm, .inr (6, [.int (iZ u.1), .int (iZ w), .int (iZ h), .int (iZ mn), .ref zd, .ref zb, .ref zt, .int (iZ n), .ref zs, .ref zc, .int (iZ ((u.2.2.1 0))), .int (iZ ((u.2.2.1 1))), .int (iZ ((u.2.2.1 2))), .int (iZ ((u.2.2.1 3))), .int (iZ ((u.2.2.1 4))), .int (iZ ((u.2.2.1 5))), .int (iZ ((u.2.2.1 6))), .ref zo])), (zd, .inl (cI, 32768, .inl (aI u.2.1))), (zt, .inl (cI, 4096, .inl (aI Dt))), (zs, .inl (cI, 12, .inl (aI Sz))), (zc, .inl (cI, 32768, .inl (aI Ce))), (zo, .inl (cZ, 5200, .inl (aI u.2.2.2)))]) A) ([.ref hm, .int (iZ x), .int (iZ y), .int (iZ bh), .int (iZ m_), .int (iZ aq)] : List Value).toArray s 0 0 A) (F0 m 67 ls []) := by
              intro n_67
              induction n_67 with
              | zero => intro i k_ lf C1 i1 i2 i3 i4 i5 hm; exact absurd hm (by omega)
              | succ n_67 ih_67 =>
                intro i k_ lf C1 i1 i2 i3 i4 i5 hm_67 H locs hP hD hS ls hl
                refine lv_iload hx hb d_Mo_bars_67 (lv_at hl 8 rfl) ?_
                refine lv_sipush (v := iZ (5200)) hx hb d_Mo_bars_69 (by decide) ?_
                refine zi_ge (tgt := 169) hx hb d_Mo_bars_72 (by decide) (by omega) (by omega) (by omega) (by omega) (fun c_72 => ?_) (fun c_72 => ?_)
                · refine lv_aload_n hx hb d_Mo_bars_169 rfl (lv_at hl 0 rfl) ?_
                  refine lv_iload_n hx hb d_Mo_bars_170 rfl (lv_at hl 1 rfl) ?_
                  refine lv_iload_n hx hb d_Mo_bars_171 rfl (lv_at hl 2 rfl) ?_
                  refine lv_iconst (v := iZ (0)) hx hb d_Mo_bars_172 rfl ?_
                  refine lv_iload_n hx hb d_Mo_bars_173 rfl (lv_at hl 3 rfl) ?_
                  refine lv_iconst (v := iZ (0)) hx hb d_Mo_bars_174 rfl ?_
                  refine zc_v (w1 := fun (u_175 : Unit) => [(hm, .inr (6, [.int (iZ 0), .int (iZ w), .int (iZ h), .int (iZ mn), .ref zd, .ref zb, .ref zt, .int (iZ n), .ref zs, .ref zc, .int (iZ x), .int (iZ y), .int (iZ 0), .int (iZ bh), .int (iZ 0), .int (iZ qr), .int (iZ fo), .ref zo]))]) (wr := [(zd, .inl (cI, 32768, .inl (aI Dk))), (zt, .inl (cI, 4096, .inl (aI Dt))), (zs, .inl (cI, 12, .inl (aI Sz))), (zc, .inl (cI, 32768, .inl (aI Ce))), (zo, .inl (cZ, 5200, .inl (aI C1)))]) (va_runV (As := [.int (iZ x), .int (iZ y), .int (iZ 0), .int (iZ bh), .int (iZ 0)]) (rest := []) ⟨hx, hb, hml, hown, hts⟩ (c_Model_at l dC dI hm zd zb zt zs zc zo 0 w h mn n fx fy fa fb fc qr fo x y 0 bh 0 H.size ) (cwV 5 hts (gV t_774 t_776 s_15 t_6 t_777) rfl rfl rfl (by decide +kernel) ⟨Nat.le_of_ble_eq_true rfl, Nat.le_of_ble_eq_true rfl⟩) ⟨zPm_blind, va_recv hK hP (ci := 6) (q0 := 0) rfl rfl, zPm_pre hP hD hK [0] [] rfl rfl rfl rfl⟩ rfl rfl hl.1 rfl (lv_room (Nat.le_of_ble_eq_true rfl)) d_Mo_bars_175 ⟨Nat.le_of_ble_eq_true rfl, Nat.le_of_ble_eq_true rfl⟩) hP hD hS hA [0] [1, 2, 3, 4, 5] rfl rfl rfl (by decide) (fun u_175 H locs q_175 hP hD hS => ?_)
                  have hP : va_P (dC, dI) vwCl [(zd, .inl (cI, 32768, .inl (aI Dk))), (zt, .inl (cI, 4096, .inl (aI Dt))), (zs, .inl (cI, 12, .inl (aI Sz))), (zc, .inl (cI, 32768, .inl (aI Ce))), (zo, .inl (cZ, 5200, .inl (aI C1))), (hm, .inr (6, [.int (iZ 0), .int (iZ w), .int (iZ h), .int (iZ mn), .ref zd, .ref zb, .ref zt, .int (iZ n), .ref zs, .ref zc, .int (iZ x), .int (iZ y), .int (iZ 0), .int (iZ bh), .int (iZ 0), .int (iZ qr), .int (iZ fo), .ref zo]))] H := hP
                  have hD : va_D A [(zd, .inl (cI, 32768, .inl (aI Dk))), (zt, .inl (cI, 4096, .inl (aI Dt))), (zs, .inl (cI, 12, .inl (aI Sz))), (zc, .inl (cI, 32768, .inl (aI Ce))), (zo, .inl (cZ, 5200, .inl (aI C1))), (hm, .inr (6, [.int (iZ 0), .int (iZ w), .int (iZ h), .int (iZ mn), .ref zd, .ref zb, .ref zt, .int (iZ n), .ref zs, .ref zc, .int (iZ x), .int (iZ y), .int (iZ 0), .int (iZ bh), .int (iZ 0), .int (iZ qr), .int (iZ fo), .ref zo]))] := hD
                  refine lv_aload_n hx hb d_Mo_bars_178 rfl (lv_at hl 0 rfl) ?_
                  refine lv_iload hx hb d_Mo_bars_179 (lv_at hl 5 rfl) ?_
                  refine va_put (D := (dC, dI)) (ci := 6) (v := .int (iZ aq)) (ty := .int) (C := R_Mo) (T := T_Mo) (N := 18) hx hb hts wi_Mo ty_Mo ty_Mo_ok nd_Mo hown hK hP hD hS 5 rfl rfl 15 (by decide) (hts _ t_699) (fun _ h9 => h9) rfl (by decide +kernel) rfl rfl (Nat.le_of_ble_eq_true rfl) d_Mo_bars_181 (fun H locs hP hD hS => ?_)
                  have hP : va_P (dC, dI) vwCl [(zd, .inl (cI, 32768, .inl (aI Dk))), (zt, .inl (cI, 4096, .inl (aI Dt))), (zs, .inl (cI, 12, .inl (aI Sz))), (zc, .inl (cI, 32768, .inl (aI Ce))), (zo, .inl (cZ, 5200, .inl (aI C1))), (hm, .inr (6, [.int (iZ 0), .int (iZ w), .int (iZ h), .int (iZ mn), .ref zd, .ref zb, .ref zt, .int (iZ n), .ref zs, .ref zc, .int (iZ x), .int (iZ y), .int (iZ 0), .int (iZ bh), .int (iZ 0), .int (iZ aq), .int (iZ fo), .ref zo]))] H := hP
                  have hD : va_D A [(zd, .inl (cI, 32768, .inl (aI Dk))), (zt, .inl (cI, 4096, .inl (aI Dt))), (zs, .inl (cI, 12, .inl (aI Sz))), (zc, .inl (cI, 32768, .inl (aI Ce))), (zo, .inl (cZ, 5200, .inl (aI C1))), (hm, .inr (6, [.int (iZ 0), .int (iZ w), .int (iZ h), .int (iZ mn), .ref zd, .ref zb, .ref zt, .int (iZ n), .ref zs, .ref zc, .int (iZ x), .int (iZ y), .int (iZ 0), .int (iZ bh), .int (iZ 0), .int (iZ aq), .int (iZ fo), .ref zo]))] := hD
                  refine lv_aload_n hx hb d_Mo_bars_184 rfl (lv_at hl 0 rfl) ?_
                  refine lv_iconst (v := iZ (4)) hx hb d_Mo_bars_185 rfl ?_
                  refine zc_i (w1 := fun (u_186 : Int → Int32) => [(hm, .inr (6, [.int (iZ 0), .int (iZ w), .int (iZ h), .int (iZ mn), .ref zd, .ref zb, .ref zt, .int (iZ n), .ref zs, .ref zc, .int (iZ x), .int (iZ y), .int (iZ 0), .int (iZ bh), .int (iZ 0), .int (iZ aq), .int (iZ fo), .ref zo])), (zd, .inl (cI, 32768, .inl (aI u_186))), (zt, .inl (cI, 4096, .inl (aI Dt))), (zs, .inl (cI, 12, .inl (aI Sz))), (zc, .inl (cI, 32768, .inl (aI Ce))), (zo, .inl (cZ, 5200, .inl (aI C1)))]) (wr := []) (va_runV (As := [.int (iZ 4)]) (rest := []) ⟨hx, hb, hml, hown, hts⟩ (c_Model_draw l dC dI hm zd zb zt zs zc zo 0 w h mn n x y 0 bh 0 aq fo cI cZ Dt Sz Ce C1 (fun _ => iZ 0) dr (brN dr m_ n.toNat) 0 0 0 (baB dr aq x y bh m_ n.toNat) Dk pic 4 H.size (w1) (w2) (h1) (h2) (mn1) (mn2) (hM) (hO) (by omega) (by omega) (by omega) (by omega) (n1) (n2) (hT) (by omega) (by omega) (fun z9 => absurd z9 (by omega)) (fun z9 => absurd z9 (by omega)) (fun z9 => absurd z9 (by omega)) (fun z9 => absurd z9 (by omega)) (fun z9 => absurd z9 (by omega)) (fun z9 => absurd z9 (by omega)) (fun z9 => absurd z9 (by omega)) (fun _ => ⟨by omega, by omega, by omega, fun k9 k8 k7 => i4 k9 k8 (by omega)⟩) (fun _ => funext (fun px => funext (fun py => (ba_ext hd2 _).symm))) (fun z9 => absurd z9 (by omega)) (fun z9 => absurd z9 (by omega)) (fun z9 => absurd z9 (by omega)) (fun z9 => absurd z9 (by omega))) (cwV 1 hts (gV t_778 t_780 s_16 t_6 t_781) rfl rfl rfl (by decide +kernel) ⟨Nat.le_of_ble_eq_true rfl, Nat.le_of_ble_eq_true rfl⟩) ⟨zPm_blind, va_recv hK hP (ci := 6) (q0 := 5) rfl rfl, zPm_pre hP hD hK [5, 0, 1, 2, 3, 4] [0, 1] rfl rfl rfl rfl⟩ rfl rfl hl.1 rfl (lv_room (Nat.le_of_ble_eq_true rfl)) d_Mo_bars_186 ⟨Nat.le_of_ble_eq_true rfl, Nat.le_of_ble_eq_true rfl⟩) hP hD hS hA [5, 0, 1, 2, 3, 4] [] rfl rfl rfl (by decide) (fun r_186 u_186 H locs q_186 hP hD hS => ?_)
                  have hP : va_P (dC, dI) vwCl [(hm, .inr (6, [.int (iZ 0), .int (iZ w), .int (iZ h), .int (iZ mn), .ref zd, .ref zb, .ref zt, .int (iZ n), .ref zs, .ref zc, .int (iZ x), .int (iZ y), .int (iZ 0), .int (iZ bh), .int (iZ 0), .int (iZ aq), .int (iZ fo), .ref zo])), (zd, .inl (cI, 32768, .inl (aI u_186))), (zt, .inl (cI, 4096, .inl (aI Dt))), (zs, .inl (cI, 12, .inl (aI Sz))), (zc, .inl (cI, 32768, .inl (aI Ce))), (zo, .inl (cZ, 5200, .inl (aI C1)))] H := hP
                  have hD : va_D A [(hm, .inr (6, [.int (iZ 0), .int (iZ w), .int (iZ h), .int (iZ mn), .ref zd, .ref zb, .ref zt, .int (iZ n), .ref zs, .ref zc, .int (iZ x), .int (iZ y), .int (iZ 0), .int (iZ bh), .int (iZ 0), .int (iZ aq), .int (iZ fo), .ref zo])), (zd, .inl (cI, 32768, .inl (aI u_186))), (zt, .inl (cI, 4096, .inl (aI Dt))), (zs, .inl (cI, 12, .inl (aI Sz))), (zc, .inl (cI, 32768, .inl (aI Ce))), (zo, .inl (cZ, 5200, .inl (aI C1)))] := hD
                  obtain ⟨rfl, q_186⟩ := q_186
                  exact W.iret hx hb hr (fun t ht hW => ⟨⟨_, ((0, u_186, fun k9 => [x, y, 0, bh, 0, aq, fo].getD k9 0, C1)), rfl, ⟨_, rfl, Or.inl ⟨by omega, rfl, rfl, q_186⟩⟩, by rw [ht]; exact hP, va_K.moved hW.alike hK, hD⟩, hS.F ht⟩) hS.2.2 d_Mo_bars_189
                · have LP_75 : ∀ (n_75 : Nat) (k2 : Int) (l2 : Int), (bkI dr m_ n i k2 l2) → (l2 ≤ 12750) → (n - k2).toNat < n_75 → ∀ (H : Heap) (locs : List Loc), va_P (dC, dI) vwCl [(hm, .inr (6, [.int (iZ 0), .int (iZ w), .int (iZ h), .int (iZ mn), .ref zd, .ref zb, .ref zt, .int (iZ n), .ref zs, .ref zc, .int (iZ fx), .int (iZ fy), .int (iZ fa), .int (iZ fb), .int (iZ fc), .int (iZ qr), .int (iZ fo), .ref zo])), (zd, .inl (cI, 32768, .inl (aI Dk))), (zt, .inl (cI, 4096, .inl (aI Dt))), (zs, .inl (cI, 12, .inl (aI Sz))), (zc, .inl (cI, 32768, .inl (aI Ce))), (zo, .inl (cZ, 5200, .inl (aI C1)))] H → va_D A [(hm, .inr (6, [.int (iZ 0), .int (iZ w), .int (iZ h), .int (iZ mn), .ref zd, .ref zb, .ref zt, .int (iZ n), .ref zs, .ref zc, .int (iZ fx), .int (iZ fy), .int (iZ fa), .int (iZ fb), .int (iZ fc), .int (iZ qr), .int (iZ fo), .ref zo])), (zd, .inl (cI, 32768, .inl (aI Dk))), (zt, .inl (cI, 4096, .inl (aI Dt))), (zs, .inl (cI, 12, .inl (aI Sz))), (zc, .inl (cI, 32768, .inl (aI Ce))), (zo, .inl (cZ, 5200, .inl (aI C1)))] → va_S A s.heap H locs → ∀ (ls : Array Slot), lv_has ls 9 [(0, .ref hm), (1, .int (iZ x)), (2, .int (iZ y)), (3, .int (iZ bh)), (4, .int (iZ m_)), (5, .int (iZ aq)), (6, .int (iZ k2)), (7, .int (iZ l2)), (8, .int (iZ i))] → W p l e ({ frames := 4, cells := 0, slots := 0, locals := 106 } : Room) s m ([.ref hm, .int (iZ x), .int (iZ y), .int (iZ bh), .int (iZ m_), .int (iZ aq)] : List Value).toArray below meth c H locs 0 0 (MQ below (va_Qi (fun (r : Int32) (u : Int × (Int → Int32) × (Nat → Int) × (Int → Int32)) => ∃ z : Int, r = iZ z ∧ (((-4096 ≤ x ∧ x ≤ 4096 ∧ -4096 ≤ y ∧ y ≤ 4096 ∧ 0 ≤ aq ∧ aq ≤ 3 ∧ 1 ≤ bh ∧ bh ≤ 2048 ∧ 1 ≤ m_ ∧ m_ ≤ 50) ∧ u.1 = 0 ∧ z = cnt w h (baB dr aq x y bh m_ n.toNat) ∧ RepM u.2.1 (drw mn (fun px py => onB w h px py && baB dr aq x y bh m_ n.toNat px py) pic)) ∨ (¬ (-4096 ≤ x ∧ x ≤ 4096 ∧ -4096 ≤ y ∧ y ≤ 4096 ∧ 0 ≤ aq ∧ aq ≤ 3 ∧ 1 ≤ bh ∧ bh ≤ 2048 ∧ 1 ≤ m_ ∧ m_ ≤ 50) ∧ u.1 = 1 ∧ u.2.1 = Dk))) (fun u => zB (dC, dI) vwCl [(cI, .int), (cZ, .boolean)] A [(hm, .inr (6, [.int (iZ u.1), .int (iZ w), .int (iZ h), .int (iZ mn), .ref zd, .ref zb, .ref zt, .int (iZ n), .ref zs, .ref zc, .int (iZ ((u.2.2.1 0))), .int (iZ ((u.2.2.1 1))), .int (iZ ((u.2.2.1 2))), .int (iZ ((u.2.2.1 3))), .int (iZ ((u.2.2.1 4))), .int (iZ ((u.2.2.1 5))), .int (iZ ((u.2.2.1 6))), .ref zo])), (zd, .inl (cI, 32768, .inl (aI u.2.1))), (zt, .inl (cI, 4096, .inl (aI Dt))), (zs, .inl (cI, 12, .inl (aI Sz))), (zc, .inl (cI, 32768, .inl (aI Ce))), (zo, .inl (cZ, 5200, .inl (aI u.2.2.2)))]) A) ([.ref hm, .int (iZ x), .int (iZ y), .int (iZ bh), .int (iZ m_), .int (iZ aq)] : List Value).toArray s 0 0 A) (F0 m 75 ls []) := by
                    intro n_75
                    induction n_75 with
                    | zero => intro k2 l2 j3 j5 hm; exact absurd hm (by omega)
                    | succ n_75 ih_75 =>
                      intro k2 l2 j3 j5 hm_75 H locs hP hD hS ls hl
                      have j6 := j3.1
                      have j7 := j3.2.1
                      have j8 := j3.2.2.1
                      refine lv_iload hx hb d_Mo_bars_75 (lv_at hl 7 rfl) ?_
                      refine zi_if_ne (tgt := 120) hx hb d_Mo_bars_77 (by decide) (by omega) (by omega) (fun c_77 => ?_) (fun c_77 => ?_)
                      · refine lv_aload_n hx hb d_Mo_bars_120 rfl (lv_at hl 0 rfl) ?_
                        refine va_get (D := (dC, dI)) (ci := 6) (v := .ref zo) (C := R_Mo) (T := T_Mo) (N := 18) hx hb hts wi_Mo hown hK hP 0 rfl rfl 17 (by decide) (hts _ t_701) (fun _ h9 => h9) rfl d_Mo_bars_121 ?_
                        refine lv_iload hx hb d_Mo_bars_124 (lv_at hl 8 rfl) ?_
                        refine lv_iload hx hb d_Mo_bars_126 (lv_at hl 6 rfl) ?_
                        refine lv_aload_n hx hb d_Mo_bars_128 rfl (lv_at hl 0 rfl) ?_
                        refine va_get (D := (dC, dI)) (ci := 6) (v := .int (iZ n)) (C := R_Mo) (T := T_Mo) (N := 18) hx hb hts wi_Mo hown hK hP 0 rfl rfl 7 (by decide) (hts _ t_691) (fun _ h9 => h9) rfl d_Mo_bars_129 ?_
                        refine zi_ge (tgt := 146) hx hb d_Mo_bars_132 (by decide) (by omega) (by omega) (by omega) (by omega) (fun c_132 => ?_) (fun c_132 => ?_)
                        · refine lv_iconst (v := iZ (0)) hx hb d_Mo_bars_146 rfl ?_
                          refine z_zast hx hb hK hP hD hS 5 1 rfl rfl (by omega) (by omega) (by omega) d_Mo_bars_147 (fun H locs hP hD hS => ?_)
                          have hP : va_P (dC, dI) vwCl [(hm, .inr (6, [.int (iZ 0), .int (iZ w), .int (iZ h), .int (iZ mn), .ref zd, .ref zb, .ref zt, .int (iZ n), .ref zs, .ref zc, .int (iZ fx), .int (iZ fy), .int (iZ fa), .int (iZ fb), .int (iZ fc), .int (iZ qr), .int (iZ fo), .ref zo])), (zd, .inl (cI, 32768, .inl (aI Dk))), (zt, .inl (cI, 4096, .inl (aI Dt))), (zs, .inl (cI, 12, .inl (aI Sz))), (zc, .inl (cI, 32768, .inl (aI Ce))), (zo, .inl (cZ, 5200, .inl (aI (upZ C1 i (vp_nar .boolean (iZ 0))))))] H := hP
                          have hD : va_D A [(hm, .inr (6, [.int (iZ 0), .int (iZ w), .int (iZ h), .int (iZ mn), .ref zd, .ref zb, .ref zt, .int (iZ n), .ref zs, .ref zc, .int (iZ fx), .int (iZ fy), .int (iZ fa), .int (iZ fb), .int (iZ fc), .int (iZ qr), .int (iZ fo), .ref zo])), (zd, .inl (cI, 32768, .inl (aI Dk))), (zt, .inl (cI, 4096, .inl (aI Dt))), (zs, .inl (cI, 12, .inl (aI Sz))), (zc, .inl (cI, 32768, .inl (aI Ce))), (zo, .inl (cZ, 5200, .inl (aI (upZ C1 i (vp_nar .boolean (iZ 0))))))] := hD
                          refine lv_iload hx hb d_Mo_bars_148 (lv_at hl 7 rfl) ?_
                          refine zi_if_le (tgt := 160) hx hb d_Mo_bars_150 (by decide) (by omega) (by omega) (fun c_150 => ?_) (fun c_150 => ?_)
                          · refine lv_iconst (v := iZ (0)) hx hb d_Mo_bars_160 rfl ?_
                            refine lv_istore (lv' := [(7, .int (iZ 0)), (0, .ref hm), (1, .int (iZ x)), (2, .int (iZ y)), (3, .int (iZ bh)), (4, .int (iZ m_)), (5, .int (iZ aq)), (6, .int (iZ k2)), (8, .int (iZ i))]) hx hb d_Mo_bars_161 hl (by decide) rfl (fun ls hl => ?_)
                            refine lv_iinc (v := iZ (i + 1)) (lv' := [(8, .int (iZ (i + 1))), (7, .int (iZ 0)), (0, .ref hm), (1, .int (iZ x)), (2, .int (iZ y)), (3, .int (iZ bh)), (4, .int (iZ m_)), (5, .int (iZ aq)), (6, .int (iZ k2))]) hx hb d_Mo_bars_163 hl (k := 8) rfl (iZ_add _ _) (by decide) rfl (fun ls hl => ?_)
                            refine lv_goto (tgt := 67) hx hb d_Mo_bars_166 (by decide) ?_
                            exact ih_67 (i + 1) k2 0 (upZ C1 i (vp_nar .boolean (iZ 0))) (by omega) (by omega) (by first | (rw [e_v7_161]; exact bk_step j3 (by omega) (Or.inl ⟨by omega, rfl⟩)) | exact bk_step j3 (by omega) (Or.inr ⟨by omega, rfl⟩)) (fun j j1 j2 => by by_cases q : j = i; (rw [q, upZ_s, bk_col hd2 j3 (by omega) n1 i1]; first | (rw [decide_eq_true (show k2 < n ∧ k2 % 2 = 0 by omega)]; rfl) | (rw [decide_eq_false (show ¬ (k2 < n ∧ k2 % 2 = 0) by omega)]; rfl)); (rw [upZ_n _ _ q]; exact i4 j j1 (by omega))) (by omega) (by omega) _ _ hP hD hS ls (lv_sub hl [2, 3, 4, 5, 6, 7, 8, 1, 0] rfl)
                          · refine lv_iload hx hb d_Mo_bars_153 (lv_at hl 7 rfl) ?_
                            refine lv_iconst (v := iZ (1)) hx hb d_Mo_bars_155 rfl ?_
                            refine zi_sub hx hb d_Mo_bars_156 ?_
                            refine lv_goto (tgt := 161) hx hb d_Mo_bars_157 (by decide) ?_
                            refine zn_z (fun v7_161 e_v7_161 => ?_)
                            refine lv_istore (lv' := [(7, .int (iZ v7_161)), (0, .ref hm), (1, .int (iZ x)), (2, .int (iZ y)), (3, .int (iZ bh)), (4, .int (iZ m_)), (5, .int (iZ aq)), (6, .int (iZ k2)), (8, .int (iZ i))]) hx hb d_Mo_bars_161 hl (by decide) rfl (fun ls hl => ?_)
                            refine lv_iinc (v := iZ (i + 1)) (lv' := [(8, .int (iZ (i + 1))), (7, .int (iZ v7_161)), (0, .ref hm), (1, .int (iZ x)), (2, .int (iZ y)), (3, .int (iZ bh)), (4, .int (iZ m_)), (5, .int (iZ aq)), (6, .int (iZ k2))]) hx hb d_Mo_bars_163 hl (k := 8) rfl (iZ_add _ _) (by decide) rfl (fun ls hl => ?_)
                            refine lv_goto (tgt := 67) hx hb d_Mo_bars_166 (by decide) ?_
                            exact ih_67 (i + 1) k2 v7_161 (upZ C1 i (vp_nar .boolean (iZ 0))) (by omega) (by omega) (by first | (rw [e_v7_161]; exact bk_step j3 (by omega) (Or.inl ⟨by omega, rfl⟩)) | exact bk_step j3 (by omega) (Or.inr ⟨by omega, rfl⟩)) (fun j j1 j2 => by by_cases q : j = i; (rw [q, upZ_s, bk_col hd2 j3 (by omega) n1 i1]; first | (rw [decide_eq_true (show k2 < n ∧ k2 % 2 = 0 by omega)]; rfl) | (rw [decide_eq_false (show ¬ (k2 < n ∧ k2 % 2 = 0) by omega)]; rfl)); (rw [upZ_n _ _ q]; exact i4 j j1 (by omega))) (by omega) (by omega) _ _ hP hD hS ls (lv_sub hl [2, 3, 4, 5, 6, 7, 8, 1, 0] rfl)
                        · have k9 : 0 ≤ k2 := bk_k0 j3 i1 (by omega) (by omega)
                          refine lv_iload hx hb d_Mo_bars_135 (lv_at hl 6 rfl) ?_
                          refine lv_iconst (v := iZ (2)) hx hb d_Mo_bars_137 rfl ?_
                          refine zi_rem hx hb d_Mo_bars_138 (by omega) (by omega) (by omega) (by omega) ?_
                          refine zi_if_ne (tgt := 146) hx hb d_Mo_bars_139 (by decide) (by omega) (by omega) (fun c_139 => ?_) (fun c_139 => ?_)
                          · refine lv_iconst (v := iZ (0)) hx hb d_Mo_bars_146 rfl ?_
                            refine z_zast hx hb hK hP hD hS 5 1 rfl rfl (by omega) (by omega) (by omega) d_Mo_bars_147 (fun H locs hP hD hS => ?_)
                            have hP : va_P (dC, dI) vwCl [(hm, .inr (6, [.int (iZ 0), .int (iZ w), .int (iZ h), .int (iZ mn), .ref zd, .ref zb, .ref zt, .int (iZ n), .ref zs, .ref zc, .int (iZ fx), .int (iZ fy), .int (iZ fa), .int (iZ fb), .int (iZ fc), .int (iZ qr), .int (iZ fo), .ref zo])), (zd, .inl (cI, 32768, .inl (aI Dk))), (zt, .inl (cI, 4096, .inl (aI Dt))), (zs, .inl (cI, 12, .inl (aI Sz))), (zc, .inl (cI, 32768, .inl (aI Ce))), (zo, .inl (cZ, 5200, .inl (aI (upZ C1 i (vp_nar .boolean (iZ 0))))))] H := hP
                            have hD : va_D A [(hm, .inr (6, [.int (iZ 0), .int (iZ w), .int (iZ h), .int (iZ mn), .ref zd, .ref zb, .ref zt, .int (iZ n), .ref zs, .ref zc, .int (iZ fx), .int (iZ fy), .int (iZ fa), .int (iZ fb), .int (iZ fc), .int (iZ qr), .int (iZ fo), .ref zo])), (zd, .inl (cI, 32768, .inl (aI Dk))), (zt, .inl (cI, 4096, .inl (aI Dt))), (zs, .inl (cI, 12, .inl (aI Sz))), (zc, .inl (cI, 32768, .inl (aI Ce))), (zo, .inl (cZ, 5200, .inl (aI (upZ C1 i (vp_nar .boolean (iZ 0))))))] := hD
                            refine lv_iload hx hb d_Mo_bars_148 (lv_at hl 7 rfl) ?_
                            refine zi_if_le (tgt := 160) hx hb d_Mo_bars_150 (by decide) (by omega) (by omega) (fun c_150 => ?_) (fun c_150 => ?_)
                            · refine lv_iconst (v := iZ (0)) hx hb d_Mo_bars_160 rfl ?_
                              refine lv_istore (lv' := [(7, .int (iZ 0)), (0, .ref hm), (1, .int (iZ x)), (2, .int (iZ y)), (3, .int (iZ bh)), (4, .int (iZ m_)), (5, .int (iZ aq)), (6, .int (iZ k2)), (8, .int (iZ i))]) hx hb d_Mo_bars_161 hl (by decide) rfl (fun ls hl => ?_)
                              refine lv_iinc (v := iZ (i + 1)) (lv' := [(8, .int (iZ (i + 1))), (7, .int (iZ 0)), (0, .ref hm), (1, .int (iZ x)), (2, .int (iZ y)), (3, .int (iZ bh)), (4, .int (iZ m_)), (5, .int (iZ aq)), (6, .int (iZ k2))]) hx hb d_Mo_bars_163 hl (k := 8) rfl (iZ_add _ _) (by decide) rfl (fun ls hl => ?_)
                              refine lv_goto (tgt := 67) hx hb d_Mo_bars_166 (by decide) ?_
                              exact ih_67 (i + 1) k2 0 (upZ C1 i (vp_nar .boolean (iZ 0))) (by omega) (by omega) (by first | (rw [e_v7_161]; exact bk_step j3 (by omega) (Or.inl ⟨by omega, rfl⟩)) | exact bk_step j3 (by omega) (Or.inr ⟨by omega, rfl⟩)) (fun j j1 j2 => by by_cases q : j = i; (rw [q, upZ_s, bk_col hd2 j3 (by omega) n1 i1]; first | (rw [decide_eq_true (show k2 < n ∧ k2 % 2 = 0 by omega)]; rfl) | (rw [decide_eq_false (show ¬ (k2 < n ∧ k2 % 2 = 0) by omega)]; rfl)); (rw [upZ_n _ _ q]; exact i4 j j1 (by omega))) (by omega) (by omega) _ _ hP hD hS ls (lv_sub hl [2, 3, 4, 5, 6, 7, 8, 1, 0] rfl)
                            · refine lv_iload hx hb d_Mo_bars_153 (lv_at hl 7 rfl) ?_
                              refine lv_iconst (v := iZ (1)) hx hb d_Mo_bars_155 rfl ?_
                              refine zi_sub hx hb d_Mo_bars_156 ?_
                              refine lv_goto (tgt := 161) hx hb d_Mo_bars_157 (by decide) ?_
                              refine zn_z (fun v7_161 e_v7_161 => ?_)
                              refine lv_istore (lv' := [(7, .int (iZ v7_161)), (0, .ref hm), (1, .int (iZ x)), (2, .int (iZ y)), (3, .int (iZ bh)), (4, .int (iZ m_)), (5, .int (iZ aq)), (6, .int (iZ k2)), (8, .int (iZ i))]) hx hb d_Mo_bars_161 hl (by decide) rfl (fun ls hl => ?_)
                              refine lv_iinc (v := iZ (i + 1)) (lv' := [(8, .int (iZ (i + 1))), (7, .int (iZ v7_161)), (0, .ref hm), (1, .int (iZ x)), (2, .int (iZ y)), (3, .int (iZ bh)), (4, .int (iZ m_)), (5, .int (iZ aq)), (6, .int (iZ k2))]) hx hb d_Mo_bars_163 hl (k := 8) rfl (iZ_add _ _) (by decide) rfl (fun ls hl => ?_)
                              refine lv_goto (tgt := 67) hx hb d_Mo_bars_166 (by decide) ?_
                              exact ih_67 (i + 1) k2 v7_161 (upZ C1 i (vp_nar .boolean (iZ 0))) (by omega) (by omega) (by first | (rw [e_v7_161]; exact bk_step j3 (by omega) (Or.inl ⟨by omega, rfl⟩)) | exact bk_step j3 (by omega) (Or.inr ⟨by omega, rfl⟩)) (fun j j1 j2 => by by_cases q : j = i; (rw [q, upZ_s, bk_col hd2 j3 (by omega) n1 i1]; first | (rw [decide_eq_true (show k2 < n ∧ k2 % 2 = 0 by omega)]; rfl) | (rw [decide_eq_false (show ¬ (k2 < n ∧ k2 % 2 = 0) by omega)]; rfl)); (rw [upZ_n _ _ q]; exact i4 j j1 (by omega))) (by omega) (by omega) _ _ hP hD hS ls (lv_sub hl [2, 3, 4, 5, 6, 7, 8, 1, 0] rfl)
                          · refine lv_iconst (v := iZ (1)) hx hb d_Mo_bars_142 rfl ?_
                            refine lv_goto (tgt := 147) hx hb d_Mo_bars_143 (by decide) ?_
                            refine z_zast hx hb hK hP hD hS 5 1 rfl rfl (by omega) (by omega) (by omega) d_Mo_bars_147 (fun H locs hP hD hS => ?_)
                            have hP : va_P (dC, dI) vwCl [(hm, .inr (6, [.int (iZ 0), .int (iZ w), .int (iZ h), .int (iZ mn), .ref zd, .ref zb, .ref zt, .int (iZ n), .ref zs, .ref zc, .int (iZ fx), .int (iZ fy), .int (iZ fa), .int (iZ fb), .int (iZ fc), .int (iZ qr), .int (iZ fo), .ref zo])), (zd, .inl (cI, 32768, .inl (aI Dk))), (zt, .inl (cI, 4096, .inl (aI Dt))), (zs, .inl (cI, 12, .inl (aI Sz))), (zc, .inl (cI, 32768, .inl (aI Ce))), (zo, .inl (cZ, 5200, .inl (aI (upZ C1 i (vp_nar .boolean (iZ 1))))))] H := hP
                            have hD : va_D A [(hm, .inr (6, [.int (iZ 0), .int (iZ w), .int (iZ h), .int (iZ mn), .ref zd, .ref zb, .ref zt, .int (iZ n), .ref zs, .ref zc, .int (iZ fx), .int (iZ fy), .int (iZ fa), .int (iZ fb), .int (iZ fc), .int (iZ qr), .int (iZ fo), .ref zo])), (zd, .inl (cI, 32768, .inl (aI Dk))), (zt, .inl (cI, 4096, .inl (aI Dt))), (zs, .inl (cI, 12, .inl (aI Sz))), (zc, .inl (cI, 32768, .inl (aI Ce))), (zo, .inl (cZ, 5200, .inl (aI (upZ C1 i (vp_nar .boolean (iZ 1))))))] := hD
                            refine lv_iload hx hb d_Mo_bars_148 (lv_at hl 7 rfl) ?_
                            refine zi_if_le (tgt := 160) hx hb d_Mo_bars_150 (by decide) (by omega) (by omega) (fun c_150 => ?_) (fun c_150 => ?_)
                            · refine lv_iconst (v := iZ (0)) hx hb d_Mo_bars_160 rfl ?_
                              refine lv_istore (lv' := [(7, .int (iZ 0)), (0, .ref hm), (1, .int (iZ x)), (2, .int (iZ y)), (3, .int (iZ bh)), (4, .int (iZ m_)), (5, .int (iZ aq)), (6, .int (iZ k2)), (8, .int (iZ i))]) hx hb d_Mo_bars_161 hl (by decide) rfl (fun ls hl => ?_)
                              refine lv_iinc (v := iZ (i + 1)) (lv' := [(8, .int (iZ (i + 1))), (7, .int (iZ 0)), (0, .ref hm), (1, .int (iZ x)), (2, .int (iZ y)), (3, .int (iZ bh)), (4, .int (iZ m_)), (5, .int (iZ aq)), (6, .int (iZ k2))]) hx hb d_Mo_bars_163 hl (k := 8) rfl (iZ_add _ _) (by decide) rfl (fun ls hl => ?_)
                              refine lv_goto (tgt := 67) hx hb d_Mo_bars_166 (by decide) ?_
                              exact ih_67 (i + 1) k2 0 (upZ C1 i (vp_nar .boolean (iZ 1))) (by omega) (by omega) (by first | (rw [e_v7_161]; exact bk_step j3 (by omega) (Or.inl ⟨by omega, rfl⟩)) | exact bk_step j3 (by omega) (Or.inr ⟨by omega, rfl⟩)) (fun j j1 j2 => by by_cases q : j = i; (rw [q, upZ_s, bk_col hd2 j3 (by omega) n1 i1]; first | (rw [decide_eq_true (show k2 < n ∧ k2 % 2 = 0 by omega)]; rfl) | (rw [decide_eq_false (show ¬ (k2 < n ∧ k2 % 2 = 0) by omega)]; rfl)); (rw [upZ_n _ _ q]; exact i4 j j1 (by omega))) (by omega) (by omega) _ _ hP hD hS ls (lv_sub hl [2, 3, 4, 5, 6, 7, 8, 1, 0] rfl)
                            · refine lv_iload hx hb d_Mo_bars_153 (lv_at hl 7 rfl) ?_
                              refine lv_iconst (v := iZ (1)) hx hb d_Mo_bars_155 rfl ?_
                              refine zi_sub hx hb d_Mo_bars_156 ?_
                              refine lv_goto (tgt := 161) hx hb d_Mo_bars_157 (by decide) ?_
                              refine zn_z (fun v7_161 e_v7_161 => ?_)
                              refine lv_istore (lv' := [(7, .int (iZ v7_161)), (0, .ref hm), (1, .int (iZ x)), (2, .int (iZ y)), (3, .int (iZ bh)), (4, .int (iZ m_)), (5, .int (iZ aq)), (6, .int (iZ k2)), (8, .int (iZ i))]) hx hb d_Mo_bars_161 hl (by decide) rfl (fun ls hl => ?_)
                              refine lv_iinc (v := iZ (i + 1)) (lv' := [(8, .int (iZ (i + 1))), (7, .int (iZ v7_161)), (0, .ref hm), (1, .int (iZ x)), (2, .int (iZ y)), (3, .int (iZ bh)), (4, .int (iZ m_)), (5, .int (iZ aq)), (6, .int (iZ k2))]) hx hb d_Mo_bars_163 hl (k := 8) rfl (iZ_add _ _) (by decide) rfl (fun ls hl => ?_)
                              refine lv_goto (tgt := 67) hx hb d_Mo_bars_166 (by decide) ?_
                              exact ih_67 (i + 1) k2 v7_161 (upZ C1 i (vp_nar .boolean (iZ 1))) (by omega) (by omega) (by first | (rw [e_v7_161]; exact bk_step j3 (by omega) (Or.inl ⟨by omega, rfl⟩)) | exact bk_step j3 (by omega) (Or.inr ⟨by omega, rfl⟩)) (fun j j1 j2 => by by_cases q : j = i; (rw [q, upZ_s, bk_col hd2 j3 (by omega) n1 i1]; first | (rw [decide_eq_true (show k2 < n ∧ k2 % 2 = 0 by omega)]; rfl) | (rw [decide_eq_false (show ¬ (k2 < n ∧ k2 % 2 = 0) by omega)]; rfl)); (rw [upZ_n _ _ q]; exact i4 j j1 (by omega))) (by omega) (by omega) _ _ hP hD hS ls (lv_sub hl [2, 3, 4, 5, 6, 7, 8, 1, 0] rfl)
                      · refine lv_iload hx hb d_Mo_bars_80 (lv_at hl 6 rfl) ?_
                        refine lv_aload_n hx hb d_Mo_bars_82 rfl (lv_at hl 0 rfl) ?_
                        refine va_get (D := (dC, dI)) (ci := 6) (v := .int (iZ n)) (C := R_Mo) (T := T_Mo) (N := 18) hx hb hts wi_Mo hown hK hP 0 rfl rfl 7 (by decide) (hts _ t_691) (fun _ h9 => h9) rfl d_Mo_bars_83 ?_
                        refine zi_ge (tgt := 120) hx hb d_Mo_bars_86 (by decide) (by omega) (by omega) (by omega) (by omega) (fun c_86 => ?_) (fun c_86 => ?_)
                        · refine lv_aload_n hx hb d_Mo_bars_120 rfl (lv_at hl 0 rfl) ?_
                          refine va_get (D := (dC, dI)) (ci := 6) (v := .ref zo) (C := R_Mo) (T := T_Mo) (N := 18) hx hb hts wi_Mo hown hK hP 0 rfl rfl 17 (by decide) (hts _ t_701) (fun _ h9 => h9) rfl d_Mo_bars_121 ?_
                          refine lv_iload hx hb d_Mo_bars_124 (lv_at hl 8 rfl) ?_
                          refine lv_iload hx hb d_Mo_bars_126 (lv_at hl 6 rfl) ?_
                          refine lv_aload_n hx hb d_Mo_bars_128 rfl (lv_at hl 0 rfl) ?_
                          refine va_get (D := (dC, dI)) (ci := 6) (v := .int (iZ n)) (C := R_Mo) (T := T_Mo) (N := 18) hx hb hts wi_Mo hown hK hP 0 rfl rfl 7 (by decide) (hts _ t_691) (fun _ h9 => h9) rfl d_Mo_bars_129 ?_
                          refine zi_ge (tgt := 146) hx hb d_Mo_bars_132 (by decide) (by omega) (by omega) (by omega) (by omega) (fun c_132 => ?_) (fun c_132 => ?_)
                          · refine lv_iconst (v := iZ (0)) hx hb d_Mo_bars_146 rfl ?_
                            refine z_zast hx hb hK hP hD hS 5 1 rfl rfl (by omega) (by omega) (by omega) d_Mo_bars_147 (fun H locs hP hD hS => ?_)
                            have hP : va_P (dC, dI) vwCl [(hm, .inr (6, [.int (iZ 0), .int (iZ w), .int (iZ h), .int (iZ mn), .ref zd, .ref zb, .ref zt, .int (iZ n), .ref zs, .ref zc, .int (iZ fx), .int (iZ fy), .int (iZ fa), .int (iZ fb), .int (iZ fc), .int (iZ qr), .int (iZ fo), .ref zo])), (zd, .inl (cI, 32768, .inl (aI Dk))), (zt, .inl (cI, 4096, .inl (aI Dt))), (zs, .inl (cI, 12, .inl (aI Sz))), (zc, .inl (cI, 32768, .inl (aI Ce))), (zo, .inl (cZ, 5200, .inl (aI (upZ C1 i (vp_nar .boolean (iZ 0))))))] H := hP
                            have hD : va_D A [(hm, .inr (6, [.int (iZ 0), .int (iZ w), .int (iZ h), .int (iZ mn), .ref zd, .ref zb, .ref zt, .int (iZ n), .ref zs, .ref zc, .int (iZ fx), .int (iZ fy), .int (iZ fa), .int (iZ fb), .int (iZ fc), .int (iZ qr), .int (iZ fo), .ref zo])), (zd, .inl (cI, 32768, .inl (aI Dk))), (zt, .inl (cI, 4096, .inl (aI Dt))), (zs, .inl (cI, 12, .inl (aI Sz))), (zc, .inl (cI, 32768, .inl (aI Ce))), (zo, .inl (cZ, 5200, .inl (aI (upZ C1 i (vp_nar .boolean (iZ 0))))))] := hD
                            refine lv_iload hx hb d_Mo_bars_148 (lv_at hl 7 rfl) ?_
                            refine zi_if_le (tgt := 160) hx hb d_Mo_bars_150 (by decide) (by omega) (by omega) (fun c_150 => ?_) (fun c_150 => ?_)
                            · refine lv_iconst (v := iZ (0)) hx hb d_Mo_bars_160 rfl ?_
                              refine lv_istore (lv' := [(7, .int (iZ 0)), (0, .ref hm), (1, .int (iZ x)), (2, .int (iZ y)), (3, .int (iZ bh)), (4, .int (iZ m_)), (5, .int (iZ aq)), (6, .int (iZ k2)), (8, .int (iZ i))]) hx hb d_Mo_bars_161 hl (by decide) rfl (fun ls hl => ?_)
                              refine lv_iinc (v := iZ (i + 1)) (lv' := [(8, .int (iZ (i + 1))), (7, .int (iZ 0)), (0, .ref hm), (1, .int (iZ x)), (2, .int (iZ y)), (3, .int (iZ bh)), (4, .int (iZ m_)), (5, .int (iZ aq)), (6, .int (iZ k2))]) hx hb d_Mo_bars_163 hl (k := 8) rfl (iZ_add _ _) (by decide) rfl (fun ls hl => ?_)
                              refine lv_goto (tgt := 67) hx hb d_Mo_bars_166 (by decide) ?_
                              exact ih_67 (i + 1) k2 0 (upZ C1 i (vp_nar .boolean (iZ 0))) (by omega) (by omega) (by first | (rw [e_v7_161]; exact bk_step j3 (by omega) (Or.inl ⟨by omega, rfl⟩)) | exact bk_step j3 (by omega) (Or.inr ⟨by omega, rfl⟩)) (fun j j1 j2 => by by_cases q : j = i; (rw [q, upZ_s, bk_col hd2 j3 (by omega) n1 i1]; first | (rw [decide_eq_true (show k2 < n ∧ k2 % 2 = 0 by omega)]; rfl) | (rw [decide_eq_false (show ¬ (k2 < n ∧ k2 % 2 = 0) by omega)]; rfl)); (rw [upZ_n _ _ q]; exact i4 j j1 (by omega))) (by omega) (by omega) _ _ hP hD hS ls (lv_sub hl [2, 3, 4, 5, 6, 7, 8, 1, 0] rfl)
                            · refine lv_iload hx hb d_Mo_bars_153 (lv_at hl 7 rfl) ?_
                              refine lv_iconst (v := iZ (1)) hx hb d_Mo_bars_155 rfl ?_
                              refine zi_sub hx hb d_Mo_bars_156 ?_
                              refine lv_goto (tgt := 161) hx hb d_Mo_bars_157 (by decide) ?_
                              refine zn_z (fun v7_161 e_v7_161 => ?_)
                              refine lv_istore (lv' := [(7, .int (iZ v7_161)), (0, .ref hm), (1, .int (iZ x)), (2, .int (iZ y)), (3, .int (iZ bh)), (4, .int (iZ m_)), (5, .int (iZ aq)), (6, .int (iZ k2)), (8, .int (iZ i))]) hx hb d_Mo_bars_161 hl (by decide) rfl (fun ls hl => ?_)
                              refine lv_iinc (v := iZ (i + 1)) (lv' := [(8, .int (iZ (i + 1))), (7, .int (iZ v7_161)), (0, .ref hm), (1, .int (iZ x)), (2, .int (iZ y)), (3, .int (iZ bh)), (4, .int (iZ m_)), (5, .int (iZ aq)), (6, .int (iZ k2))]) hx hb d_Mo_bars_163 hl (k := 8) rfl (iZ_add _ _) (by decide) rfl (fun ls hl => ?_)
                              refine lv_goto (tgt := 67) hx hb d_Mo_bars_166 (by decide) ?_
                              exact ih_67 (i + 1) k2 v7_161 (upZ C1 i (vp_nar .boolean (iZ 0))) (by omega) (by omega) (by first | (rw [e_v7_161]; exact bk_step j3 (by omega) (Or.inl ⟨by omega, rfl⟩)) | exact bk_step j3 (by omega) (Or.inr ⟨by omega, rfl⟩)) (fun j j1 j2 => by by_cases q : j = i; (rw [q, upZ_s, bk_col hd2 j3 (by omega) n1 i1]; first | (rw [decide_eq_true (show k2 < n ∧ k2 % 2 = 0 by omega)]; rfl) | (rw [decide_eq_false (show ¬ (k2 < n ∧ k2 % 2 = 0) by omega)]; rfl)); (rw [upZ_n _ _ q]; exact i4 j j1 (by omega))) (by omega) (by omega) _ _ hP hD hS ls (lv_sub hl [2, 3, 4, 5, 6, 7, 8, 1, 0] rfl)
                          · have k9 : 0 ≤ k2 := bk_k0 j3 i1 (by omega) (by omega)
                            refine lv_iload hx hb d_Mo_bars_135 (lv_at hl 6 rfl) ?_
                            refine lv_iconst (v := iZ (2)) hx hb d_Mo_bars_137 rfl ?_
                            refine zi_rem hx hb d_Mo_bars_138 (by omega) (by omega) (by omega) (by omega) ?_
                            refine zi_if_ne (tgt := 146) hx hb d_Mo_bars_139 (by decide) (by omega) (by omega) (fun c_139 => ?_) (fun c_139 => ?_)
                            · refine lv_iconst (v := iZ (0)) hx hb d_Mo_bars_146 rfl ?_
                              refine z_zast hx hb hK hP hD hS 5 1 rfl rfl (by omega) (by omega) (by omega) d_Mo_bars_147 (fun H locs hP hD hS => ?_)
                              have hP : va_P (dC, dI) vwCl [(hm, .inr (6, [.int (iZ 0), .int (iZ w), .int (iZ h), .int (iZ mn), .ref zd, .ref zb, .ref zt, .int (iZ n), .ref zs, .ref zc, .int (iZ fx), .int (iZ fy), .int (iZ fa), .int (iZ fb), .int (iZ fc), .int (iZ qr), .int (iZ fo), .ref zo])), (zd, .inl (cI, 32768, .inl (aI Dk))), (zt, .inl (cI, 4096, .inl (aI Dt))), (zs, .inl (cI, 12, .inl (aI Sz))), (zc, .inl (cI, 32768, .inl (aI Ce))), (zo, .inl (cZ, 5200, .inl (aI (upZ C1 i (vp_nar .boolean (iZ 0))))))] H := hP
                              have hD : va_D A [(hm, .inr (6, [.int (iZ 0), .int (iZ w), .int (iZ h), .int (iZ mn), .ref zd, .ref zb, .ref zt, .int (iZ n), .ref zs, .ref zc, .int (iZ fx), .int (iZ fy), .int (iZ fa), .int (iZ fb), .int (iZ fc), .int (iZ qr), .int (iZ fo), .ref zo])), (zd, .inl (cI, 32768, .inl (aI Dk))), (zt, .inl (cI, 4096, .inl (aI Dt))), (zs, .inl (cI, 12, .inl (aI Sz))), (zc, .inl (cI, 32768, .inl (aI Ce))), (zo, .inl (cZ, 5200, .inl (aI (upZ C1 i (vp_nar .boolean (iZ 0))))))] := hD
                              refine lv_iload hx hb d_Mo_bars_148 (lv_at hl 7 rfl) ?_
                              refine zi_if_le (tgt := 160) hx hb d_Mo_bars_150 (by decide) (by omega) (by omega) (fun c_150 => ?_) (fun c_150 => ?_)
                              · refine lv_iconst (v := iZ (0)) hx hb d_Mo_bars_160 rfl ?_
                                refine lv_istore (lv' := [(7, .int (iZ 0)), (0, .ref hm), (1, .int (iZ x)), (2, .int (iZ y)), (3, .int (iZ bh)), (4, .int (iZ m_)), (5, .int (iZ aq)), (6, .int (iZ k2)), (8, .int (iZ i))]) hx hb d_Mo_bars_161 hl (by decide) rfl (fun ls hl => ?_)
                                refine lv_iinc (v := iZ (i + 1)) (lv' := [(8, .int (iZ (i + 1))), (7, .int (iZ 0)), (0, .ref hm), (1, .int (iZ x)), (2, .int (iZ y)), (3, .int (iZ bh)), (4, .int (iZ m_)), (5, .int (iZ aq)), (6, .int (iZ k2))]) hx hb d_Mo_bars_163 hl (k := 8) rfl (iZ_add _ _) (by decide) rfl (fun ls hl => ?_)
                                refine lv_goto (tgt := 67) hx hb d_Mo_bars_166 (by decide) ?_
                                exact ih_67 (i + 1) k2 0 (upZ C1 i (vp_nar .boolean (iZ 0))) (by omega) (by omega) (by first | (rw [e_v7_161]; exact bk_step j3 (by omega) (Or.inl ⟨by omega, rfl⟩)) | exact bk_step j3 (by omega) (Or.inr ⟨by omega, rfl⟩)) (fun j j1 j2 => by by_cases q : j = i; (rw [q, upZ_s, bk_col hd2 j3 (by omega) n1 i1]; first | (rw [decide_eq_true (show k2 < n ∧ k2 % 2 = 0 by omega)]; rfl) | (rw [decide_eq_false (show ¬ (k2 < n ∧ k2 % 2 = 0) by omega)]; rfl)); (rw [upZ_n _ _ q]; exact i4 j j1 (by omega))) (by omega) (by omega) _ _ hP hD hS ls (lv_sub hl [2, 3, 4, 5, 6, 7, 8, 1, 0] rfl)
                              · refine lv_iload hx hb d_Mo_bars_153 (lv_at hl 7 rfl) ?_
                                refine lv_iconst (v := iZ (1)) hx hb d_Mo_bars_155 rfl ?_
                                refine zi_sub hx hb d_Mo_bars_156 ?_
                                refine lv_goto (tgt := 161) hx hb d_Mo_bars_157 (by decide) ?_
                                refine zn_z (fun v7_161 e_v7_161 => ?_)
                                refine lv_istore (lv' := [(7, .int (iZ v7_161)), (0, .ref hm), (1, .int (iZ x)), (2, .int (iZ y)), (3, .int (iZ bh)), (4, .int (iZ m_)), (5, .int (iZ aq)), (6, .int (iZ k2)), (8, .int (iZ i))]) hx hb d_Mo_bars_161 hl (by decide) rfl (fun ls hl => ?_)
                                refine lv_iinc (v := iZ (i + 1)) (lv' := [(8, .int (iZ (i + 1))), (7, .int (iZ v7_161)), (0, .ref hm), (1, .int (iZ x)), (2, .int (iZ y)), (3, .int (iZ bh)), (4, .int (iZ m_)), (5, .int (iZ aq)), (6, .int (iZ k2))]) hx hb d_Mo_bars_163 hl (k := 8) rfl (iZ_add _ _) (by decide) rfl (fun ls hl => ?_)
                                refine lv_goto (tgt := 67) hx hb d_Mo_bars_166 (by decide) ?_
                                exact ih_67 (i + 1) k2 v7_161 (upZ C1 i (vp_nar .boolean (iZ 0))) (by omega) (by omega) (by first | (rw [e_v7_161]; exact bk_step j3 (by omega) (Or.inl ⟨by omega, rfl⟩)) | exact bk_step j3 (by omega) (Or.inr ⟨by omega, rfl⟩)) (fun j j1 j2 => by by_cases q : j = i; (rw [q, upZ_s, bk_col hd2 j3 (by omega) n1 i1]; first | (rw [decide_eq_true (show k2 < n ∧ k2 % 2 = 0 by omega)]; rfl) | (rw [decide_eq_false (show ¬ (k2 < n ∧ k2 % 2 = 0) by omega)]; rfl)); (rw [upZ_n _ _ q]; exact i4 j j1 (by omega))) (by omega) (by omega) _ _ hP hD hS ls (lv_sub hl [2, 3, 4, 5, 6, 7, 8, 1, 0] rfl)
                            · refine lv_iconst (v := iZ (1)) hx hb d_Mo_bars_142 rfl ?_
                              refine lv_goto (tgt := 147) hx hb d_Mo_bars_143 (by decide) ?_
                              refine z_zast hx hb hK hP hD hS 5 1 rfl rfl (by omega) (by omega) (by omega) d_Mo_bars_147 (fun H locs hP hD hS => ?_)
                              have hP : va_P (dC, dI) vwCl [(hm, .inr (6, [.int (iZ 0), .int (iZ w), .int (iZ h), .int (iZ mn), .ref zd, .ref zb, .ref zt, .int (iZ n), .ref zs, .ref zc, .int (iZ fx), .int (iZ fy), .int (iZ fa), .int (iZ fb), .int (iZ fc), .int (iZ qr), .int (iZ fo), .ref zo])), (zd, .inl (cI, 32768, .inl (aI Dk))), (zt, .inl (cI, 4096, .inl (aI Dt))), (zs, .inl (cI, 12, .inl (aI Sz))), (zc, .inl (cI, 32768, .inl (aI Ce))), (zo, .inl (cZ, 5200, .inl (aI (upZ C1 i (vp_nar .boolean (iZ 1))))))] H := hP
                              have hD : va_D A [(hm, .inr (6, [.int (iZ 0), .int (iZ w), .int (iZ h), .int (iZ mn), .ref zd, .ref zb, .ref zt, .int (iZ n), .ref zs, .ref zc, .int (iZ fx), .int (iZ fy), .int (iZ fa), .int (iZ fb), .int (iZ fc), .int (iZ qr), .int (iZ fo), .ref zo])), (zd, .inl (cI, 32768, .inl (aI Dk))), (zt, .inl (cI, 4096, .inl (aI Dt))), (zs, .inl (cI, 12, .inl (aI Sz))), (zc, .inl (cI, 32768, .inl (aI Ce))), (zo, .inl (cZ, 5200, .inl (aI (upZ C1 i (vp_nar .boolean (iZ 1))))))] := hD
                              refine lv_iload hx hb d_Mo_bars_148 (lv_at hl 7 rfl) ?_
                              refine zi_if_le (tgt := 160) hx hb d_Mo_bars_150 (by decide) (by omega) (by omega) (fun c_150 => ?_) (fun c_150 => ?_)
                              · refine lv_iconst (v := iZ (0)) hx hb d_Mo_bars_160 rfl ?_
                                refine lv_istore (lv' := [(7, .int (iZ 0)), (0, .ref hm), (1, .int (iZ x)), (2, .int (iZ y)), (3, .int (iZ bh)), (4, .int (iZ m_)), (5, .int (iZ aq)), (6, .int (iZ k2)), (8, .int (iZ i))]) hx hb d_Mo_bars_161 hl (by decide) rfl (fun ls hl => ?_)
                                refine lv_iinc (v := iZ (i + 1)) (lv' := [(8, .int (iZ (i + 1))), (7, .int (iZ 0)), (0, .ref hm), (1, .int (iZ x)), (2, .int (iZ y)), (3, .int (iZ bh)), (4, .int (iZ m_)), (5, .int (iZ aq)), (6, .int (iZ k2))]) hx hb d_Mo_bars_163 hl (k := 8) rfl (iZ_add _ _) (by decide) rfl (fun ls hl => ?_)
                                refine lv_goto (tgt := 67) hx hb d_Mo_bars_166 (by decide) ?_
                                exact ih_67 (i + 1) k2 0 (upZ C1 i (vp_nar .boolean (iZ 1))) (by omega) (by omega) (by first | (rw [e_v7_161]; exact bk_step j3 (by omega) (Or.inl ⟨by omega, rfl⟩)) | exact bk_step j3 (by omega) (Or.inr ⟨by omega, rfl⟩)) (fun j j1 j2 => by by_cases q : j = i; (rw [q, upZ_s, bk_col hd2 j3 (by omega) n1 i1]; first | (rw [decide_eq_true (show k2 < n ∧ k2 % 2 = 0 by omega)]; rfl) | (rw [decide_eq_false (show ¬ (k2 < n ∧ k2 % 2 = 0) by omega)]; rfl)); (rw [upZ_n _ _ q]; exact i4 j j1 (by omega))) (by omega) (by omega) _ _ hP hD hS ls (lv_sub hl [2, 3, 4, 5, 6, 7, 8, 1, 0] rfl)
                              · refine lv_iload hx hb d_Mo_bars_153 (lv_at hl 7 rfl) ?_
                                refine lv_iconst (v := iZ (1)) hx hb d_Mo_bars_155 rfl ?_
                                refine zi_sub hx hb d_Mo_bars_156 ?_
                                refine lv_goto (tgt := 161) hx hb d_Mo_bars_157 (by decide) ?_
                                refine zn_z (fun v7_161 e_v7_161 => ?_)
                                refine lv_istore (lv' := [(7, .int (iZ v7_161)), (0, .ref hm), (1, .int (iZ x)), (2, .int (iZ y)), (3, .int (iZ bh)), (4, .int (iZ m_)), (5, .int (iZ aq)), (6, .int (iZ k2)), (8, .int (iZ i))]) hx hb d_Mo_bars_161 hl (by decide) rfl (fun ls hl => ?_)
                                refine lv_iinc (v := iZ (i + 1)) (lv' := [(8, .int (iZ (i + 1))), (7, .int (iZ v7_161)), (0, .ref hm), (1, .int (iZ x)), (2, .int (iZ y)), (3, .int (iZ bh)), (4, .int (iZ m_)), (5, .int (iZ aq)), (6, .int (iZ k2))]) hx hb d_Mo_bars_163 hl (k := 8) rfl (iZ_add _ _) (by decide) rfl (fun ls hl => ?_)
                                refine lv_goto (tgt := 67) hx hb d_Mo_bars_166 (by decide) ?_
                                exact ih_67 (i + 1) k2 v7_161 (upZ C1 i (vp_nar .boolean (iZ 1))) (by omega) (by omega) (by first | (rw [e_v7_161]; exact bk_step j3 (by omega) (Or.inl ⟨by omega, rfl⟩)) | exact bk_step j3 (by omega) (Or.inr ⟨by omega, rfl⟩)) (fun j j1 j2 => by by_cases q : j = i; (rw [q, upZ_s, bk_col hd2 j3 (by omega) n1 i1]; first | (rw [decide_eq_true (show k2 < n ∧ k2 % 2 = 0 by omega)]; rfl) | (rw [decide_eq_false (show ¬ (k2 < n ∧ k2 % 2 = 0) by omega)]; rfl)); (rw [upZ_n _ _ q]; exact i4 j j1 (by omega))) (by omega) (by omega) _ _ hP hD hS ls (lv_sub hl [2, 3, 4, 5, 6, 7, 8, 1, 0] rfl)
                        · refine lv_iinc (v := iZ (k2 + 1)) (lv' := [(6, .int (iZ (k2 + 1))), (0, .ref hm), (1, .int (iZ x)), (2, .int (iZ y)), (3, .int (iZ bh)), (4, .int (iZ m_)), (5, .int (iZ aq)), (7, .int (iZ l2)), (8, .int (iZ i))]) hx hb d_Mo_bars_89 hl (k := 6) rfl (iZ_add _ _) (by decide) rfl (fun ls hl => ?_)
                          refine lv_iload hx hb d_Mo_bars_92 (lv_at hl 0 rfl) ?_
                          refine lv_aload_n hx hb d_Mo_bars_94 rfl (lv_at hl 1 rfl) ?_
                          refine va_get (D := (dC, dI)) (ci := 6) (v := .int (iZ n)) (C := R_Mo) (T := T_Mo) (N := 18) hx hb hts wi_Mo hown hK hP 0 rfl rfl 7 (by decide) (hts _ t_691) (fun _ h9 => h9) rfl d_Mo_bars_95 ?_
                          refine zi_ge (tgt := 114) hx hb d_Mo_bars_98 (by decide) (by omega) (by omega) (by omega) (by omega) (fun c_98 => ?_) (fun c_98 => ?_)
                          · refine lv_iconst (v := iZ (0)) hx hb d_Mo_bars_114 rfl ?_
                            refine lv_istore (lv' := [(7, .int (iZ 0)), (6, .int (iZ (k2 + 1))), (0, .ref hm), (1, .int (iZ x)), (2, .int (iZ y)), (3, .int (iZ bh)), (4, .int (iZ m_)), (5, .int (iZ aq)), (8, .int (iZ i))]) hx hb d_Mo_bars_115 hl (by decide) rfl (fun ls hl => ?_)
                            refine lv_goto (tgt := 75) hx hb d_Mo_bars_117 (by decide) ?_
                            exact ih_75 (k2 + 1) 0 (by first | (rw [e_v7_115]; exact (bk_next hd2 (by rw [← c_77]; exact j3) (by omega)).1 (by omega)) | exact (bk_next hd2 (by rw [← c_77]; exact j3) (by omega)).2 (by omega)) (by omega) (by omega) _ _ hP hD hS ls (lv_sub hl [2, 3, 4, 5, 6, 7, 1, 0, 8] rfl)
                          · refine lv_iload hx hb d_Mo_bars_101 (lv_at hl 5 rfl) ?_
                            refine lv_aload_n hx hb d_Mo_bars_103 rfl (lv_at hl 1 rfl) ?_
                            refine va_get (D := (dC, dI)) (ci := 6) (v := .ref zt) (C := R_Mo) (T := T_Mo) (N := 18) hx hb hts wi_Mo hown hK hP 0 rfl rfl 6 (by decide) (hts _ t_690) (fun _ h9 => h9) rfl d_Mo_bars_104 ?_
                            refine lv_iload hx hb d_Mo_bars_107 (lv_at hl 0 rfl) ?_
                            refine z_iald hx hb hK hP 2 0 rfl rfl (by omega) (by omega) (by omega) d_Mo_bars_109 ?_
                            have d9 := hd0 (k2 + 1)
                            have ma9 := mul_in (m := m_) (c := dr (k2 + 1)) (M := 50) (C := 255) (by omega) (by omega) d9.1 d9.2
                            refine zn_eq (v2 := .int (iZ (dr (k2 + 1)))) (congrArg Value.int ((hT (k2 + 1) (by omega) (by omega)).1)) ?_
                            refine zi_mul hx hb d_Mo_bars_110 ?_
                            refine lv_goto (tgt := 115) hx hb d_Mo_bars_111 (by decide) ?_
                            refine zn_z (fun v7_115 e_v7_115 => ?_)
                            refine lv_istore (lv' := [(7, .int (iZ v7_115)), (6, .int (iZ (k2 + 1))), (0, .ref hm), (1, .int (iZ x)), (2, .int (iZ y)), (3, .int (iZ bh)), (4, .int (iZ m_)), (5, .int (iZ aq)), (8, .int (iZ i))]) hx hb d_Mo_bars_115 hl (by decide) rfl (fun ls hl => ?_)
                            refine lv_goto (tgt := 75) hx hb d_Mo_bars_117 (by decide) ?_
                            exact ih_75 (k2 + 1) v7_115 (by first | (rw [e_v7_115]; exact (bk_next hd2 (by rw [← c_77]; exact j3) (by omega)).1 (by omega)) | exact (bk_next hd2 (by rw [← c_77]; exact j3) (by omega)).2 (by omega)) (by omega) (by omega) _ _ hP hD hS ls (lv_sub hl [2, 3, 4, 5, 6, 7, 1, 0, 8] rfl)
                  exact LP_75 _ k_ lf (i3) (by omega) (Nat.lt_succ_self _) _ _ hP hD hS ls (lv_sub hl [0, 1, 2, 3, 4, 5, 6, 7, 8] rfl)
            exact LP_67 _ 0 v6_59 0 Co (by omega) (by omega) (by rw [e_v6_59]; exact bk_0 dr m_ n n1) (fun j j1 j2 => absurd j2 (by omega)) (by omega) (Nat.lt_succ_self _) _ _ hP hD hS ls (lv_sub hl [3, 4, 5, 6, 7, 8, 2, 1, 0] rfl)
          · exact absurd c_53 (by omega)
        · have c_38 := of_decide_eq_true c_38
          refine lv_iconst (v := iZ (1)) hx hb d_Mo_bars_41 rfl ?_
          refine lv_goto (tgt := 46) hx hb d_Mo_bars_42 (by decide) ?_
          refine va_put (D := (dC, dI)) (ci := 6) (v := .int (iZ 1)) (ty := .int) (C := R_Mo) (T := T_Mo) (N := 18) hx hb hts wi_Mo ty_Mo ty_Mo_ok nd_Mo hown hK hP hD hS 0 rfl rfl 0 (by decide) (hts _ t_684) (fun _ h9 => h9) rfl (by decide +kernel) rfl rfl (Nat.le_of_ble_eq_true rfl) d_Mo_bars_46 (fun H locs hP hD hS => ?_)
          have hP : va_P (dC, dI) vwCl [(hm, .inr (6, [.int (iZ 1), .int (iZ w), .int (iZ h), .int (iZ mn), .ref zd, .ref zb, .ref zt, .int (iZ n), .ref zs, .ref zc, .int (iZ fx), .int (iZ fy), .int (iZ fa), .int (iZ fb), .int (iZ fc), .int (iZ qr), .int (iZ fo), .ref zo])), (zd, .inl (cI, 32768, .inl (aI Dk))), (zt, .inl (cI, 4096, .inl (aI Dt))), (zs, .inl (cI, 12, .inl (aI Sz))), (zc, .inl (cI, 32768, .inl (aI Ce))), (zo, .inl (cZ, 5200, .inl (aI Co)))] H := hP
          have hD : va_D A [(hm, .inr (6, [.int (iZ 1), .int (iZ w), .int (iZ h), .int (iZ mn), .ref zd, .ref zb, .ref zt, .int (iZ n), .ref zs, .ref zc, .int (iZ fx), .int (iZ fy), .int (iZ fa), .int (iZ fb), .int (iZ fc), .int (iZ qr), .int (iZ fo), .ref zo])), (zd, .inl (cI, 32768, .inl (aI Dk))), (zt, .inl (cI, 4096, .inl (aI Dt))), (zs, .inl (cI, 12, .inl (aI Sz))), (zc, .inl (cI, 32768, .inl (aI Ce))), (zo, .inl (cZ, 5200, .inl (aI Co)))] := hD
          refine lv_aload_n hx hb d_Mo_bars_49 rfl (lv_at hl 0 rfl) ?_
          refine va_get (D := (dC, dI)) (ci := 6) (v := .int (iZ 1)) (C := R_Mo) (T := T_Mo) (N := 18) hx hb hts wi_Mo hown hK hP 0 rfl rfl 0 (by decide) (hts _ t_684) (fun _ h9 => h9) rfl d_Mo_bars_50 ?_
          refine zi_if_le (tgt := 58) hx hb d_Mo_bars_53 (by decide) (by omega) (by omega) (fun c_53 => ?_) (fun c_53 => ?_)
          · exact absurd c_53 (by omega)
          · refine lv_iconst (v := iZ (0)) hx hb d_Mo_bars_56 rfl ?_
            exact W.iret hx hb hr (fun t ht hW => ⟨⟨_, ((1, Dk, fun k9 => [fx, fy, fa, fb, fc, qr, fo].getD k9 0, Co)), rfl, ⟨_, rfl, Or.inr ⟨by omega, rfl, rfl⟩⟩, by rw [ht]; exact hP, va_K.moved hW.alike hK, hD⟩, hS.F ht⟩) hS.2.2 d_Mo_bars_57
theorem d_Mo_font_0 : decode c_yMo_font 0 = .ok (.aload_n 0, 1) := by decide +kernel
theorem d_Mo_font_1 : decode c_yMo_font 1 = .ok (.iload_n 1, 1) := by decide +kernel
theorem d_Mo_font_2 : decode c_yMo_font 2 = .ok (.iconst 0, 1) := by decide +kernel
theorem d_Mo_font_3 : decode c_yMo_font 3 = .ok (.iconst 3, 1) := by decide +kernel
theorem d_Mo_font_4 : decode c_yMo_font 4 = .ok (.invokestatic 121, 3) := by decide +kernel
theorem d_Mo_font_7 : decode c_yMo_font 7 = .ok (.ifCond .ne 34, 3) := by decide +kernel
theorem d_Mo_font_10 : decode c_yMo_font 10 = .ok (.iload_n 2, 1) := by decide +kernel
theorem d_Mo_font_11 : decode c_yMo_font 11 = .ok (.iconst 1, 1) := by decide +kernel
theorem d_Mo_font_12 : decode c_yMo_font 12 = .ok (.bipush 32, 2) := by decide +kernel
theorem d_Mo_font_14 : decode c_yMo_font 14 = .ok (.invokestatic 121, 3) := by decide +kernel
theorem d_Mo_font_17 : decode c_yMo_font 17 = .ok (.ifCond .ne 24, 3) := by decide +kernel
theorem d_Mo_font_20 : decode c_yMo_font 20 = .ok (.iload_n 3, 1) := by decide +kernel
theorem d_Mo_font_21 : decode c_yMo_font 21 = .ok (.iconst 1, 1) := by decide +kernel
theorem d_Mo_font_22 : decode c_yMo_font 22 = .ok (.bipush 32, 2) := by decide +kernel
theorem d_Mo_font_24 : decode c_yMo_font 24 = .ok (.invokestatic 121, 3) := by decide +kernel
theorem d_Mo_font_27 : decode c_yMo_font 27 = .ok (.ifCond .ne 14, 3) := by decide +kernel
theorem d_Mo_font_30 : decode c_yMo_font 30 = .ok (.iload 4, 2) := by decide +kernel
theorem d_Mo_font_32 : decode c_yMo_font 32 = .ok (.iconst 0, 1) := by decide +kernel
theorem d_Mo_font_33 : decode c_yMo_font 33 = .ok (.bipush 32, 2) := by decide +kernel
theorem d_Mo_font_35 : decode c_yMo_font 35 = .ok (.invokestatic 121, 3) := by decide +kernel
theorem d_Mo_font_38 : decode c_yMo_font 38 = .ok (.ifCond .eq 7, 3) := by decide +kernel
theorem d_Mo_font_41 : decode c_yMo_font 41 = .ok (.iconst 1, 1) := by decide +kernel
theorem d_Mo_font_42 : decode c_yMo_font 42 = .ok (.goto 4, 3) := by decide +kernel
theorem d_Mo_font_45 : decode c_yMo_font 45 = .ok (.iconst 0, 1) := by decide +kernel
theorem d_Mo_font_46 : decode c_yMo_font 46 = .ok (.putfield 37, 3) := by decide +kernel
theorem d_Mo_font_49 : decode c_yMo_font 49 = .ok (.aload_n 0, 1) := by decide +kernel
theorem d_Mo_font_50 : decode c_yMo_font 50 = .ok (.getfield 37, 3) := by decide +kernel
theorem d_Mo_font_53 : decode c_yMo_font 53 = .ok (.ifCond .le 4, 3) := by decide +kernel
theorem d_Mo_font_56 : decode c_yMo_font 56 = .ok (.return_, 1) := by decide +kernel
theorem d_Mo_font_57 : decode c_yMo_font 57 = .ok (.aload_n 0, 1) := by decide +kernel
theorem d_Mo_font_58 : decode c_yMo_font 58 = .ok (.getfield 27, 3) := by decide +kernel
theorem d_Mo_font_61 : decode c_yMo_font 61 = .ok (.iconst 3, 1) := by decide +kernel
theorem d_Mo_font_62 : decode c_yMo_font 62 = .ok (.iload_n 1, 1) := by decide +kernel
theorem d_Mo_font_63 : decode c_yMo_font 63 = .ok (.imul, 1) := by decide +kernel
theorem d_Mo_font_64 : decode c_yMo_font 64 = .ok (.iload_n 2, 1) := by decide +kernel
theorem d_Mo_font_65 : decode c_yMo_font 65 = .ok (.iastore, 1) := by decide +kernel
theorem d_Mo_font_66 : decode c_yMo_font 66 = .ok (.aload_n 0, 1) := by decide +kernel
theorem d_Mo_font_67 : decode c_yMo_font 67 = .ok (.getfield 27, 3) := by decide +kernel
theorem d_Mo_font_70 : decode c_yMo_font 70 = .ok (.iconst 3, 1) := by decide +kernel
theorem d_Mo_font_71 : decode c_yMo_font 71 = .ok (.iload_n 1, 1) := by decide +kernel
theorem d_Mo_font_72 : decode c_yMo_font 72 = .ok (.imul, 1) := by decide +kernel
theorem d_Mo_font_73 : decode c_yMo_font 73 = .ok (.iconst 1, 1) := by decide +kernel
theorem d_Mo_font_74 : decode c_yMo_font 74 = .ok (.iadd, 1) := by decide +kernel
theorem d_Mo_font_75 : decode c_yMo_font 75 = .ok (.iload_n 3, 1) := by decide +kernel
theorem d_Mo_font_76 : decode c_yMo_font 76 = .ok (.iastore, 1) := by decide +kernel
theorem d_Mo_font_77 : decode c_yMo_font 77 = .ok (.aload_n 0, 1) := by decide +kernel
theorem d_Mo_font_78 : decode c_yMo_font 78 = .ok (.getfield 27, 3) := by decide +kernel
theorem d_Mo_font_81 : decode c_yMo_font 81 = .ok (.iconst 3, 1) := by decide +kernel
theorem d_Mo_font_82 : decode c_yMo_font 82 = .ok (.iload_n 1, 1) := by decide +kernel
theorem d_Mo_font_83 : decode c_yMo_font 83 = .ok (.imul, 1) := by decide +kernel
theorem d_Mo_font_84 : decode c_yMo_font 84 = .ok (.iconst 2, 1) := by decide +kernel
theorem d_Mo_font_85 : decode c_yMo_font 85 = .ok (.iadd, 1) := by decide +kernel
theorem d_Mo_font_86 : decode c_yMo_font 86 = .ok (.iload 4, 2) := by decide +kernel
theorem d_Mo_font_88 : decode c_yMo_font 88 = .ok (.iastore, 1) := by decide +kernel
theorem d_Mo_font_89 : decode c_yMo_font 89 = .ok (.iconst 0, 1) := by decide +kernel
theorem d_Mo_font_90 : decode c_yMo_font 90 = .ok (.istore 5, 2) := by decide +kernel
theorem d_Mo_font_92 : decode c_yMo_font 92 = .ok (.iload 5, 2) := by decide +kernel
theorem d_Mo_font_94 : decode c_yMo_font 94 = .ok (.sipush 8192, 3) := by decide +kernel
theorem d_Mo_font_97 : decode c_yMo_font 97 = .ok (.if_icmp .ge 23, 3) := by decide +kernel
theorem d_Mo_font_100 : decode c_yMo_font 100 = .ok (.aload_n 0, 1) := by decide +kernel
theorem d_Mo_font_101 : decode c_yMo_font 101 = .ok (.getfield 30, 3) := by decide +kernel
theorem d_Mo_font_104 : decode c_yMo_font 104 = .ok (.sipush 8192, 3) := by decide +kernel
theorem d_Mo_font_107 : decode c_yMo_font 107 = .ok (.iload_n 1, 1) := by decide +kernel
theorem d_Mo_font_108 : decode c_yMo_font 108 = .ok (.imul, 1) := by decide +kernel
theorem d_Mo_font_109 : decode c_yMo_font 109 = .ok (.iload 5, 2) := by decide +kernel
theorem d_Mo_font_111 : decode c_yMo_font 111 = .ok (.iadd, 1) := by decide +kernel
theorem d_Mo_font_112 : decode c_yMo_font 112 = .ok (.iconst 0, 1) := by decide +kernel
theorem d_Mo_font_113 : decode c_yMo_font 113 = .ok (.iastore, 1) := by decide +kernel
theorem d_Mo_font_114 : decode c_yMo_font 114 = .ok (.iinc 5 1, 3) := by decide +kernel
theorem d_Mo_font_117 : decode c_yMo_font 117 = .ok (.goto (-25), 3) := by decide +kernel
theorem d_Mo_font_120 : decode c_yMo_font 120 = .ok (.return_, 1) := by decide +kernel
set_option maxHeartbeats 4000000 in
set_option maxRecDepth 100000 in
theorem c_Model_font (l : Launch) (dC : Nat → ClassId) (dI : Nat → Nat → Nat) (hm zd zb zt zs zc zo : Nat) (tw w h mn n fx fy fa fb fc qr fo : Int) (cI : ClassId) (Sz Ce : Int → Int32) (f a b g : Int) (sz : Nat) (f1 : -2147483648 ≤ f) (a1 : -2147483648 ≤ a) (b1 : -2147483648 ≤ b) (g1 : -2147483648 ≤ g) (f2 : f ≤ 2147483647) (a2 : a ≤ 2147483647) (b2 : b ≤ 2147483647) (g2 : g ≤ 2147483647) : Met l y_Mo_font w_Mo_font ({ frames := 1, cells := 0, slots := 0, locals := 22 }) (va_Pc [.ref hm, .int (iZ f), .int (iZ a), .int (iZ b), .int (iZ g)] (zPm (dC, dI) vwCl [(hm, .inr (6, [.int (iZ tw), .int (iZ w), .int (iZ h), .int (iZ mn), .ref zd, .ref zb, .ref zt, .int (iZ n), .ref zs, .ref zc, .int (iZ fx), .int (iZ fy), .int (iZ fa), .int (iZ fb), .int (iZ fc), .int (iZ qr), .int (iZ fo), .ref zo])), (zs, .inl (cI, 12, .inl (aI Sz))), (zc, .inl (cI, 32768, .inl (aI Ce)))] [(cI, .int)] sz)) (va_Qv (fun (u : Int × (Int → Int32) × (Int → Int32)) => ((0 ≤ f ∧ f ≤ 3 ∧ 1 ≤ a ∧ a ≤ 32 ∧ 1 ≤ b ∧ b ≤ 32 ∧ 0 ≤ g ∧ g ≤ 32) ∧ u.1 = 0 ∧ u.2.1 = upZ (upZ (upZ Sz (3 * f) (iZ a)) (3 * f + 1) (iZ b)) (3 * f + 2) (iZ g) ∧ ∀ k : Int, 0 ≤ k → k < 32768 → u.2.2 k = if 8192 * f ≤ k ∧ k < 8192 * f + 8192 then iZ 0 else Ce k) ∨ (¬ (0 ≤ f ∧ f ≤ 3 ∧ 1 ≤ a ∧ a ≤ 32 ∧ 1 ≤ b ∧ b ≤ 32 ∧ 0 ≤ g ∧ g ≤ 32) ∧ u.1 = 1 ∧ u.2.1 = Sz ∧ u.2.2 = Ce)) (fun u => zB (dC, dI) vwCl [(cI, .int)] (va_A [(hm, .inr (6, [.int (iZ tw), .int (iZ w), .int (iZ h), .int (iZ mn), .ref zd, .ref zb, .ref zt, .int (iZ n), .ref zs, .ref zc, .int (iZ fx), .int (iZ fy), .int (iZ fa), .int (iZ fb), .int (iZ fc), .int (iZ qr), .int (iZ fo), .ref zo])), (zs, .inl (cI, 12, .inl (aI Sz))), (zc, .inl (cI, 32768, .inl (aI Ce)))] sz) [(hm, .inr (6, [.int (iZ u.1), .int (iZ w), .int (iZ h), .int (iZ mn), .ref zd, .ref zb, .ref zt, .int (iZ n), .ref zs, .ref zc, .int (iZ fx), .int (iZ fy), .int (iZ fa), .int (iZ fb), .int (iZ fc), .int (iZ qr), .int (iZ fo), .ref zo])), (zs, .inl (cI, 12, .inl (aI u.2.1))), (zc, .inl (cI, 32768, .inl (aI u.2.2)))]) (va_A [(hm, .inr (6, [.int (iZ tw), .int (iZ w), .int (iZ h), .int (iZ mn), .ref zd, .ref zb, .ref zt, .int (iZ n), .ref zs, .ref zc, .int (iZ fx), .int (iZ fy), .int (iZ fa), .int (iZ fb), .int (iZ fc), .int (iZ qr), .int (iZ fo), .ref zo])), (zs, .inl (cI, 12, .inl (aI Sz))), (zc, .inl (cI, 32768, .inl (aI Ce)))] sz)) 0 0 (va_A [(hm, .inr (6, [.int (iZ tw), .int (iZ w), .int (iZ h), .int (iZ mn), .ref zd, .ref zb, .ref zt, .int (iZ n), .ref zs, .ref zc, .int (iZ fx), .int (iZ fy), .int (iZ fa), .int (iZ fb), .int (iZ fc), .int (iZ qr), .int (iZ fo), .ref zo])), (zs, .inl (cI, 12, .inl (aI Sz))), (zc, .inl (cI, 32768, .inl (aI Ce)))] sz) := by
  refine Met.ofW (cc := c_yMo_font) (maxL := 6) (ret := none) (by decide) rfl ?_
  intro p e s m args below meth c s₁ B hml hv
  obtain ⟨rfl, hsz, hP, hK, hD0⟩ := hv
  have hx := B.exec
  have hb := B.bytes
  have hr := B.returns
  have hts0 := atoms_spec (ws := w_Mo_font) B.pre
  have hts : ∀ w ∈ gT, w.before _ s = true := fun w h => hts0 w (List.mem_cons_of_mem _ h)
  have hown : s.vm.findClass R_Mo = some m.cls := findClass_of_methodNamed B.named
  have hlocks := B.notSynchronized
  subst hsz
  have hD := hD0.self (sz := s.heap.size)
  generalize hAe : va_A [(hm, .inr (6, [.int (iZ tw), .int (iZ w), .int (iZ h), .int (iZ mn), .ref zd, .ref zb, .ref zt, .int (iZ n), .ref zs, .ref zc, .int (iZ fx), .int (iZ fy), .int (iZ fa), .int (iZ fb), .int (iZ fc), .int (iZ qr), .int (iZ fo), .ref zo])), (zs, .inl (cI, 12, .inl (aI Sz))), (zc, .inl (cI, 32768, .inl (aI Ce)))] s.heap.size = A at hD ⊢
  have hA : ∀ q : Nat, s.heap.size ≤ q → A q := fun q h => by rw [← hAe]; exact Or.inr h
  obtain ⟨H, hH⟩ : ∃ H, s.heap = H := ⟨_, rfl⟩
  have hS : va_S A s.heap H [] := by rw [← hH]; exact va_S.rf
  rw [hH] at hP
  rw [hH]
  have hl := lv_entry ([.ref hm, .int (iZ f), .int (iZ a), .int (iZ b), .int (iZ g)]) (n := 6) (Nat.le_of_ble_eq_true rfl)
  rw [lg_entry_eq]
  generalize (lg_sl ([.ref hm, .int (iZ f), .int (iZ a), .int (iZ b), .int (iZ g)]) ++ List.replicate (6 - (lg_sl ([.ref hm, .int (iZ f), .int (iZ a), .int (iZ b), .int (iZ g)])).length) Slot.unset).toArray = ls at hl ⊢
  have hl : lv_has ls 6 [(0, .ref hm), (1, .int (iZ f)), (2, .int (iZ a)), (3, .int (iZ b)), (4, .int (iZ g))] := hl
  refine lv_aload_n hx hb d_Mo_font_0 rfl (lv_at hl 0 rfl) ?_
  refine lv_iload_n hx hb d_Mo_font_1 rfl (lv_at hl 1 rfl) ?_
  refine lv_iconst (v := iZ (0)) hx hb d_Mo_font_2 rfl ?_
  refine lv_iconst (v := iZ (3)) hx hb d_Mo_font_3 rfl ?_
  refine vp_callSi (va_runS (As := [.int (iZ f), .int (iZ 0), .int (iZ 3)]) (rest := [.ref hm]) ⟨hx, hb, hml, hown, hts⟩ (c_Model_isNot l dC dI f 0 3 (by first | omega | assumption) (by first | omega | assumption) (by first | omega | assumption) (by first | omega | assumption) (by first | omega | assumption) (by first | omega | assumption)) (va_cwS 3 hts (gS t_771 t_772 t_6 t_773) rfl rfl rfl (by decide +kernel) ⟨Nat.le_of_ble_eq_true rfl, Nat.le_of_ble_eq_true rfl⟩) ⟨zPr_blind, zPr_pre hP hK [] [] rfl rfl⟩ rfl rfl hl.1 rfl (lv_room (Nat.le_of_ble_eq_true rfl)) d_Mo_font_4 ⟨Nat.le_of_ble_eq_true rfl, Nat.le_of_ble_eq_true rfl⟩).run (fun r_4 q_4 => ?_)
  obtain rfl := q_4
  refine zb_if_ne (tgt := 41) hx hb d_Mo_font_7 (by decide) (fun c_7 => ?_) (fun c_7 => ?_)
  · have c_7 := of_decide_eq_true c_7
    refine lv_iconst (v := iZ (1)) hx hb d_Mo_font_41 rfl ?_
    refine lv_goto (tgt := 46) hx hb d_Mo_font_42 (by decide) ?_
    refine va_put (D := (dC, dI)) (ci := 6) (v := .int (iZ 1)) (ty := .int) (C := R_Mo) (T := T_Mo) (N := 18) hx hb hts wi_Mo ty_Mo ty_Mo_ok nd_Mo hown hK hP hD hS 0 rfl rfl 0 (by decide) (hts _ t_684) (fun _ h9 => h9) rfl (by decide +kernel) rfl rfl (Nat.le_of_ble_eq_true rfl) d_Mo_font_46 (fun H locs hP hD hS => ?_)
    have hP : va_P (dC, dI) vwCl [(hm, .inr (6, [.int (iZ 1), .int (iZ w), .int (iZ h), .int (iZ mn), .ref zd, .ref zb, .ref zt, .int (iZ n), .ref zs, .ref zc, .int (iZ fx), .int (iZ fy), .int (iZ fa), .int (iZ fb), .int (iZ fc), .int (iZ qr), .int (iZ fo), .ref zo])), (zs, .inl (cI, 12, .inl (aI Sz))), (zc, .inl (cI, 32768, .inl (aI Ce)))] H := hP
    have hD : va_D A [(hm, .inr (6, [.int (iZ 1), .int (iZ w), .int (iZ h), .int (iZ mn), .ref zd, .ref zb, .ref zt, .int (iZ n), .ref zs, .ref zc, .int (iZ fx), .int (iZ fy), .int (iZ fa), .int (iZ fb), .int (iZ fc), .int (iZ qr), .int (iZ fo), .ref zo])), (zs, .inl (cI, 12, .inl (aI Sz))), (zc, .inl (cI, 32768, .inl (aI Ce)))] := hD
    refine lv_aload_n hx hb d_Mo_font_49 rfl (lv_at hl 0 rfl) ?_
    refine va_get (D := (dC, dI)) (ci := 6) (v := .int (iZ 1)) (C := R_Mo) (T := T_Mo) (N := 18) hx hb hts wi_Mo hown hK hP 0 rfl rfl 0 (by decide) (hts _ t_684) (fun _ h9 => h9) rfl d_Mo_font_50 ?_
    refine zi_if_le (tgt := 57) hx hb d_Mo_font_53 (by decide) (by omega) (by omega) (fun c_53 => ?_) (fun c_53 => ?_)
    · exact absurd c_53 (by omega)
    · exact W.vret hx hb hr (fun t ht hW => ⟨⟨((1, Sz, Ce)), rfl, Or.inr ⟨by omega, rfl, rfl, rfl⟩, by rw [ht]; exact hP, va_K.moved hW.alike hK, hD⟩, hS.F ht⟩) hS.2.2 d_Mo_font_56
  · have c_7 := of_decide_eq_false c_7
    refine lv_iload_n hx hb d_Mo_font_10 rfl (lv_at hl 2 rfl) ?_
    refine lv_iconst (v := iZ (1)) hx hb d_Mo_font_11 rfl ?_
    refine lv_bipush (v := iZ (32)) hx hb d_Mo_font_12 (by decide) ?_
    refine vp_callSi (va_runS (As := [.int (iZ a), .int (iZ 1), .int (iZ 32)]) (rest := [.ref hm]) ⟨hx, hb, hml, hown, hts⟩ (c_Model_isNot l dC dI a 1 32 (by first | omega | assumption) (by first | omega | assumption) (by first | omega | assumption) (by first | omega | assumption) (by first | omega | assumption) (by first | omega | assumption)) (va_cwS 3 hts (gS t_771 t_772 t_6 t_773) rfl rfl rfl (by decide +kernel) ⟨Nat.le_of_ble_eq_true rfl, Nat.le_of_ble_eq_true rfl⟩) ⟨zPr_blind, zPr_pre hP hK [] [] rfl rfl⟩ rfl rfl hl.1 rfl (lv_room (Nat.le_of_ble_eq_true rfl)) d_Mo_font_14 ⟨Nat.le_of_ble_eq_true rfl, Nat.le_of_ble_eq_true rfl⟩).run (fun r_14 q_14 => ?_)
    obtain rfl := q_14
    refine zb_if_ne (tgt := 41) hx hb d_Mo_font_17 (by decide) (fun c_17 => ?_) (fun c_17 => ?_)
    · have c_17 := of_decide_eq_true c_17
      refine lv_iconst (v := iZ (1)) hx hb d_Mo_font_41 rfl ?_
      refine lv_goto (tgt := 46) hx hb d_Mo_font_42 (by decide) ?_
      refine va_put (D := (dC, dI)) (ci := 6) (v := .int (iZ 1)) (ty := .int) (C := R_Mo) (T := T_Mo) (N := 18) hx hb hts wi_Mo ty_Mo ty_Mo_ok nd_Mo hown hK hP hD hS 0 rfl rfl 0 (by decide) (hts _ t_684) (fun _ h9 => h9) rfl (by decide +kernel) rfl rfl (Nat.le_of_ble_eq_true rfl) d_Mo_font_46 (fun H locs hP hD hS => ?_)
      have hP : va_P (dC, dI) vwCl [(hm, .inr (6, [.int (iZ 1), .int (iZ w), .int (iZ h), .int (iZ mn), .ref zd, .ref zb, .ref zt, .int (iZ n), .ref zs, .ref zc, .int (iZ fx), .int (iZ fy), .int (iZ fa), .int (iZ fb), .int (iZ fc), .int (iZ qr), .int (iZ fo), .ref zo])), (zs, .inl (cI, 12, .inl (aI Sz))), (zc, .inl (cI, 32768, .inl (aI Ce)))] H := hP
      have hD : va_D A [(hm, .inr (6, [.int (iZ 1), .int (iZ w), .int (iZ h), .int (iZ mn), .ref zd, .ref zb, .ref zt, .int (iZ n), .ref zs, .ref zc, .int (iZ fx), .int (iZ fy), .int (iZ fa), .int (iZ fb), .int (iZ fc), .int (iZ qr), .int (iZ fo), .ref zo])), (zs, .inl (cI, 12, .inl (aI Sz))), (zc, .inl (cI, 32768, .inl (aI Ce)))] := hD
      refine lv_aload_n hx hb d_Mo_font_49 rfl (lv_at hl 0 rfl) ?_
      refine va_get (D := (dC, dI)) (ci := 6) (v := .int (iZ 1)) (C := R_Mo) (T := T_Mo) (N := 18) hx hb hts wi_Mo hown hK hP 0 rfl rfl 0 (by decide) (hts _ t_684) (fun _ h9 => h9) rfl d_Mo_font_50 ?_
      refine zi_if_le (tgt := 57) hx hb d_Mo_font_53 (by decide) (by omega) (by omega) (fun c_53 => ?_) (fun c_53 => ?_)
      · exact absurd c_53 (by omega)
      · exact W.vret hx hb hr (fun t ht hW => ⟨⟨((1, Sz, Ce)), rfl, Or.inr ⟨by omega, rfl, rfl, rfl⟩, by rw [ht]; exact hP, va_K.moved hW.alike hK, hD⟩, hS.F ht⟩) hS.2.2 d_Mo_font_56
    · have c_17 := of_decide_eq_false c_17
      refine lv_iload_n hx hb d_Mo_font_20 rfl (lv_at hl 3 rfl) ?_
      refine lv_iconst (v := iZ (1)) hx hb d_Mo_font_21 rfl ?_
      refine lv_bipush (v := iZ (32)) hx hb d_Mo_font_22 (by decide) ?_
      refine vp_callSi (va_runS (As := [.int (iZ b), .int (iZ 1), .int (iZ 32)]) (rest := [.ref hm]) ⟨hx, hb, hml, hown, hts⟩ (c_Model_isNot l dC dI b 1 32 (by first | omega | assumption) (by first | omega | assumption) (by first | omega | assumption) (by first | omega | assumption) (by first | omega | assumption) (by first | omega | assumption)) (va_cwS 3 hts (gS t_771 t_772 t_6 t_773) rfl rfl rfl (by decide +kernel) ⟨Nat.le_of_ble_eq_true rfl, Nat.le_of_ble_eq_true rfl⟩) ⟨zPr_blind, zPr_pre hP hK [] [] rfl rfl⟩ rfl rfl hl.1 rfl (lv_room (Nat.le_of_ble_eq_true rfl)) d_Mo_font_24 ⟨Nat.le_of_ble_eq_true rfl, Nat.le_of_ble_eq_true rfl⟩).run (fun r_24 q_24 => ?_)
      obtain rfl := q_24
      refine zb_if_ne (tgt := 41) hx hb d_Mo_font_27 (by decide) (fun c_27 => ?_) (fun c_27 => ?_)
      · have c_27 := of_decide_eq_true c_27
        refine lv_iconst (v := iZ (1)) hx hb d_Mo_font_41 rfl ?_
        refine lv_goto (tgt := 46) hx hb d_Mo_font_42 (by decide) ?_
        refine va_put (D := (dC, dI)) (ci := 6) (v := .int (iZ 1)) (ty := .int) (C := R_Mo) (T := T_Mo) (N := 18) hx hb hts wi_Mo ty_Mo ty_Mo_ok nd_Mo hown hK hP hD hS 0 rfl rfl 0 (by decide) (hts _ t_684) (fun _ h9 => h9) rfl (by decide +kernel) rfl rfl (Nat.le_of_ble_eq_true rfl) d_Mo_font_46 (fun H locs hP hD hS => ?_)
        have hP : va_P (dC, dI) vwCl [(hm, .inr (6, [.int (iZ 1), .int (iZ w), .int (iZ h), .int (iZ mn), .ref zd, .ref zb, .ref zt, .int (iZ n), .ref zs, .ref zc, .int (iZ fx), .int (iZ fy), .int (iZ fa), .int (iZ fb), .int (iZ fc), .int (iZ qr), .int (iZ fo), .ref zo])), (zs, .inl (cI, 12, .inl (aI Sz))), (zc, .inl (cI, 32768, .inl (aI Ce)))] H := hP
        have hD : va_D A [(hm, .inr (6, [.int (iZ 1), .int (iZ w), .int (iZ h), .int (iZ mn), .ref zd, .ref zb, .ref zt, .int (iZ n), .ref zs, .ref zc, .int (iZ fx), .int (iZ fy), .int (iZ fa), .int (iZ fb), .int (iZ fc), .int (iZ qr), .int (iZ fo), .ref zo])), (zs, .inl (cI, 12, .inl (aI Sz))), (zc, .inl (cI, 32768, .inl (aI Ce)))] := hD
        refine lv_aload_n hx hb d_Mo_font_49 rfl (lv_at hl 0 rfl) ?_
        refine va_get (D := (dC, dI)) (ci := 6) (v := .int (iZ 1)) (C := R_Mo) (T := T_Mo) (N := 18) hx hb hts wi_Mo hown hK hP 0 rfl rfl 0 (by decide) (hts _ t_684) (fun _ h9 => h9) rfl d_Mo_font_50 ?_
        refine zi_if_le (tgt := 57) hx hb d_Mo_font_53 (by decide) (by omega) (by omega) (fun c_53 => ?_) (fun c_53 => ?_)
        · exact absurd c_53 (by omega)
        · exact W.vret hx hb hr (fun t ht hW => ⟨⟨((1, Sz, Ce)), rfl, Or.inr ⟨by omega, rfl, rfl, rfl⟩, by rw [ht]; exact hP, va_K.moved hW.alike hK, hD⟩, hS.F ht⟩) hS.2.2 d_Mo_font_56
      · have c_27 := of_decide_eq_false c_27
        refine lv_iload hx hb d_Mo_font_30 (lv_at hl 4 rfl) ?_
        refine lv_iconst (v := iZ (0)) hx hb d_Mo_font_32 rfl ?_
        refine lv_bipush (v := iZ (32)) hx hb d_Mo_font_33 (by decide) ?_
        refine vp_callSi (va_runS (As := [.int (iZ g), .int (iZ 0), .int (iZ 32)]) (rest := [.ref hm]) ⟨hx, hb, hml, hown, hts⟩ (c_Model_isNot l dC dI g 0 32 (by first | omega | assumption) (by first | omega | assumption) (by first | omega | assumption) (by first | omega | assumption) (by first | omega | assumption) (by first | omega | assumption)) (va_cwS 3 hts (gS t_771 t_772 t_6 t_773) rfl rfl rfl (by decide +kernel) ⟨Nat.le_of_ble_eq_true rfl, Nat.le_of_ble_eq_true rfl⟩) ⟨zPr_blind, zPr_pre hP hK [] [] rfl rfl⟩ rfl rfl hl.1 rfl (lv_room (Nat.le_of_ble_eq_true rfl)) d_Mo_font_35 ⟨Nat.le_of_ble_eq_true rfl, Nat.le_of_ble_eq_true rfl⟩).run (fun r_35 q_35 => ?_)
        obtain rfl := q_35
        refine zb_if_eq (tgt := 45) hx hb d_Mo_font_38 (by decide) (fun c_38 => ?_) (fun c_38 => ?_)
        · have c_38 := of_decide_eq_false c_38
          refine lv_iconst (v := iZ (0)) hx hb d_Mo_font_45 rfl ?_
          refine va_put (D := (dC, dI)) (ci := 6) (v := .int (iZ 0)) (ty := .int) (C := R_Mo) (T := T_Mo) (N := 18) hx hb hts wi_Mo ty_Mo ty_Mo_ok nd_Mo hown hK hP hD hS 0 rfl rfl 0 (by decide) (hts _ t_684) (fun _ h9 => h9) rfl (by decide +kernel) rfl rfl (Nat.le_of_ble_eq_true rfl) d_Mo_font_46 (fun H locs hP hD hS => ?_)
          have hP : va_P (dC, dI) vwCl [(hm, .inr (6, [.int (iZ 0), .int (iZ w), .int (iZ h), .int (iZ mn), .ref zd, .ref zb, .ref zt, .int (iZ n), .ref zs, .ref zc, .int (iZ fx), .int (iZ fy), .int (iZ fa), .int (iZ fb), .int (iZ fc), .int (iZ qr), .int (iZ fo), .ref zo])), (zs, .inl (cI, 12, .inl (aI Sz))), (zc, .inl (cI, 32768, .inl (aI Ce)))] H := hP
          have hD : va_D A [(hm, .inr (6, [.int (iZ 0), .int (iZ w), .int (iZ h), .int (iZ mn), .ref zd, .ref zb, .ref zt, .int (iZ n), .ref zs, .ref zc, .int (iZ fx), .int (iZ fy), .int (iZ fa), .int (iZ fb), .int (iZ fc), .int (iZ qr), .int (iZ fo), .ref zo])), (zs, .inl (cI, 12, .inl (aI Sz))), (zc, .inl (cI, 32768, .inl (aI Ce)))] := hD
          refine lv_aload_n hx hb d_Mo_font_49 rfl (lv_at hl 0 rfl) ?_
          refine va_get (D := (dC, dI)) (ci := 6) (v := .int (iZ 0)) (C := R_Mo) (T := T_Mo) (N := 18) hx hb hts wi_Mo hown hK hP 0 rfl rfl 0 (by decide) (hts _ t_684) (fun _ h9 => h9) rfl d_Mo_font_50 ?_
          refine zi_if_le (tgt := 57) hx hb d_Mo_font_53 (by decide) (by omega) (by omega) (fun c_53 => ?_) (fun c_53 => ?_)
          · refine lv_aload_n hx hb d_Mo_font_57 rfl (lv_at hl 0 rfl) ?_
            refine va_get (D := (dC, dI)) (ci := 6) (v := .ref zs) (C := R_Mo) (T := T_Mo) (N := 18) hx hb hts wi_Mo hown hK hP 0 rfl rfl 8 (by decide) (hts _ t_692) (fun _ h9 => h9) rfl d_Mo_font_58 ?_
            refine lv_iconst (v := iZ (3)) hx hb d_Mo_font_61 rfl ?_
            refine lv_iload_n hx hb d_Mo_font_62 rfl (lv_at hl 1 rfl) ?_
            refine zi_mul hx hb d_Mo_font_63 ?_
            refine lv_iload_n hx hb d_Mo_font_64 rfl (lv_at hl 2 rfl) ?_
            refine z_iast hx hb hK hP hD hS 1 0 rfl rfl (by omega) (by omega) (by omega) d_Mo_font_65 (fun H locs hP hD hS => ?_)
            have hP : va_P (dC, dI) vwCl [(hm, .inr (6, [.int (iZ 0), .int (iZ w), .int (iZ h), .int (iZ mn), .ref zd, .ref zb, .ref zt, .int (iZ n), .ref zs, .ref zc, .int (iZ fx), .int (iZ fy), .int (iZ fa), .int (iZ fb), .int (iZ fc), .int (iZ qr), .int (iZ fo), .ref zo])), (zs, .inl (cI, 12, .inl (aI (upZ Sz (3 * f) (iZ a))))), (zc, .inl (cI, 32768, .inl (aI Ce)))] H := hP
            have hD : va_D A [(hm, .inr (6, [.int (iZ 0), .int (iZ w), .int (iZ h), .int (iZ mn), .ref zd, .ref zb, .ref zt, .int (iZ n), .ref zs, .ref zc, .int (iZ fx), .int (iZ fy), .int (iZ fa), .int (iZ fb), .int (iZ fc), .int (iZ qr), .int (iZ fo), .ref zo])), (zs, .inl (cI, 12, .inl (aI (upZ Sz (3 * f) (iZ a))))), (zc, .inl (cI, 32768, .inl (aI Ce)))] := hD
            refine lv_aload_n hx hb d_Mo_font_66 rfl (lv_at hl 0 rfl) ?_
            refine va_get (D := (dC, dI)) (ci := 6) (v := .ref zs) (C := R_Mo) (T := T_Mo) (N := 18) hx hb hts wi_Mo hown hK hP 0 rfl rfl 8 (by decide) (hts _ t_692) (fun _ h9 => h9) rfl d_Mo_font_67 ?_
            refine lv_iconst (v := iZ (3)) hx hb d_Mo_font_70 rfl ?_
            refine lv_iload_n hx hb d_Mo_font_71 rfl (lv_at hl 1 rfl) ?_
            refine zi_mul hx hb d_Mo_font_72 ?_
            refine lv_iconst (v := iZ (1)) hx hb d_Mo_font_73 rfl ?_
            refine zi_add hx hb d_Mo_font_74 ?_
            refine lv_iload_n hx hb d_Mo_font_75 rfl (lv_at hl 3 rfl) ?_
            refine z_iast hx hb hK hP hD hS 1 0 rfl rfl (by omega) (by omega) (by omega) d_Mo_font_76 (fun H locs hP hD hS => ?_)
            have hP : va_P (dC, dI) vwCl [(hm, .inr (6, [.int (iZ 0), .int (iZ w), .int (iZ h), .int (iZ mn), .ref zd, .ref zb, .ref zt, .int (iZ n), .ref zs, .ref zc, .int (iZ fx), .int (iZ fy), .int (iZ fa), .int (iZ fb), .int (iZ fc), .int (iZ qr), .int (iZ fo), .ref zo])), (zs, .inl (cI, 12, .inl (aI (upZ (upZ Sz (3 * f) (iZ a)) ((3 * f) + 1) (iZ b))))), (zc, .inl (cI, 32768, .inl (aI Ce)))] H := hP
            have hD : va_D A [(hm, .inr (6, [.int (iZ 0), .int (iZ w), .int (iZ h), .int (iZ mn), .ref zd, .ref zb, .ref zt, .int (iZ n), .ref zs, .ref zc, .int (iZ fx), .int (iZ fy), .int (iZ fa), .int (iZ fb), .int (iZ fc), .int (iZ qr), .int (iZ fo), .ref zo])), (zs, .inl (cI, 12, .inl (aI (upZ (upZ Sz (3 * f) (iZ a)) ((3 * f) + 1) (iZ b))))), (zc, .inl (cI, 32768, .inl (aI Ce)))] := hD
            refine lv_aload_n hx hb d_Mo_font_77 rfl (lv_at hl 0 rfl) ?_
            refine va_get (D := (dC, dI)) (ci := 6) (v := .ref zs) (C := R_Mo) (T := T_Mo) (N := 18) hx hb hts wi_Mo hown hK hP 0 rfl rfl 8 (by decide) (hts _ t_692) (fun _ h9 => h9) rfl d_Mo_font_78 ?_
            refine lv_iconst (v := iZ (3)) hx hb d_Mo_font_81 rfl ?_
            refine lv_iload_n hx hb d_Mo_font_82 rfl (lv_at hl 1 rfl) ?_
            refine zi_mul hx hb d_Mo_font_83 ?_
            refine lv_iconst (v := iZ (2)) hx hb d_Mo_font_84 rfl ?_
            refine zi_add hx hb d_Mo_font_85 ?_
            refine lv_iload hx hb d_Mo_font_86 (lv_at hl 4 rfl) ?_
            refine z_iast hx hb hK hP hD hS 1 0 rfl rfl (by omega) (by omega) (by omega) d_Mo_font_88 (fun H locs hP hD hS => ?_)
            have hP : va_P (dC, dI) vwCl [(hm, .inr (6, [.int (iZ 0), .int (iZ w), .int (iZ h), .int (iZ mn), .ref zd, .ref zb, .ref zt, .int (iZ n), .ref zs, .ref zc, .int (iZ fx), .int (iZ fy), .int (iZ fa), .int (iZ fb), .int (iZ fc), .int (iZ qr), .int (iZ fo), .ref zo])), (zs, .inl (cI, 12, .inl (aI (upZ (upZ (upZ Sz (3 * f) (iZ a)) ((3 * f) + 1) (iZ b)) ((3 * f) + 2) (iZ g))))), (zc, .inl (cI, 32768, .inl (aI Ce)))] H := hP
            have hD : va_D A [(hm, .inr (6, [.int (iZ 0), .int (iZ w), .int (iZ h), .int (iZ mn), .ref zd, .ref zb, .ref zt, .int (iZ n), .ref zs, .ref zc, .int (iZ fx), .int (iZ fy), .int (iZ fa), .int (iZ fb), .int (iZ fc), .int (iZ qr), .int (iZ fo), .ref zo])), (zs, .inl (cI, 12, .inl (aI (upZ (upZ (upZ Sz (3 * f) (iZ a)) ((3 * f) + 1) (iZ b)) ((3 * f) + 2) (iZ g))))), (zc, .inl (cI, 32768, .inl (aI Ce)))] := hD
            refine lv_iconst (v := iZ (0)) hx hb d_Mo_font_89 rfl ?_
            refine lv_istore (lv' := [(5, .int (iZ 0)), (0, .ref hm), (1, .int (iZ f)), (2, .int (iZ a)), (3, .int (iZ b)), (4, .int (iZ g))]) hx hb d_Mo_font_90 hl (by decide) rfl (fun ls hl => ?_)
            have LP_92 : ∀ (n_92 : Nat) (k_ : Int) (K : Int → Int32), (0 ≤ k_) → (k_ ≤ 8192) → (∀ k : Int, 0 ≤ k → k < 32768 → K k = if 8192 * f ≤ k ∧ k < 8192 * f + k_ then iZ 0 else Ce k) → (8192 - k_).toNat < n_92 → ∀ (H : Heap) (locs : List Loc), va_P (dC, dI) vwCl [(hm, .inr (6, [.int (iZ 0), .int (iZ w), .int (iZ h), .int (iZ mn), .ref zd, .ref zb, .ref zt, .int (iZ n), .ref zs, .ref zc, .int (iZ fx), .int (iZ fy), .int (iZ fa), .int (iZ fb), .int (iZ fc), .int (iZ qr), .int (iZ fo), .ref zo])), (zs, .inl (cI, 12, .inl (aI (upZ (upZ (upZ Sz (3 * f) (iZ a)) ((3 * f) + 1) (iZ b)) ((3 * f) + 2) (iZ g))))), (zc, .inl (cI, 32768, .inl (aI K)))] H → va_D A [(hm, .inr (6, [.int (iZ 0), .int (iZ w), .int (iZ h), .int (iZ mn), .ref zd, .ref zb, .ref zt, .int (iZ n), .ref zs, .ref zc, .int (iZ fx), .int (iZ fy), .int (iZ fa), .int (iZ fb), .int (iZ fc), .int (iZ qr), .int (iZ fo), .ref zo])), (zs, .inl (cI, 12, .inl (aI (upZ (upZ (upZ Sz (3 * f) (iZ a)) ((3 * f) + 1) (iZ b)) ((3 * f) + 2) (iZ g))))), (zc, .inl (cI, 32768, .inl (aI K)))] → va_S A s.heap H locs → ∀ (ls : Array Slot), lv_has ls 6 [(0, .ref hm), (1, .int (iZ f)), (2, .int (iZ a)), (3, .int (iZ b)), (4, .int (iZ g)), (5, .int (iZ k_))] → W p l e ({ frames := 1, cells := 0, slots := 0, locals := 22 } : Room) s m ([.ref hm, .int (iZ f), .int (iZ a), .int (iZ b), .int (iZ g)] : List Value).toArray below meth c H locs 0 0 (MQ below (va_Qv (fun (u : Int × (Int → Int32) × (Int → Int32)) => ((0 ≤ f ∧ f ≤ 3 ∧ 1 ≤ a ∧ a ≤ 32 ∧ 1 ≤ b ∧ b ≤ 32 ∧ 0 ≤ g ∧ g ≤ 32) ∧ u.1 = 0 ∧ u.2.1 = upZ (upZ (upZ Sz (3 * f) (iZ a)) (3 * f + 1) (iZ b)) (3 * f + 2) (iZ g) ∧ ∀ k : Int, 0 ≤ k → k < 32768 → u.2.2 k = if 8192 * f ≤ k ∧ k < 8192 * f + 8192 then iZ 0 else Ce k) ∨ (¬ (0 ≤ f ∧ f ≤ 3 ∧ 1 ≤ a ∧ a ≤ 32 ∧ 1 ≤ b ∧ b ≤ 32 ∧ 0 ≤ g ∧ g ≤ 32) ∧ u.1 = 1 ∧ u.2.1 = Sz ∧ u.2.2 = Ce)) (fun u => zB (dC, dI) vwCl [(cI, .int)] A [(hm, .inr (6, [.int (iZ u.1), .int (iZ w), .int (iZ h), .int (iZ mn), .ref zd, .ref zb, .ref zt, .int (iZ n), .ref zs, .ref zc, .int (iZ fx), .int (iZ fy), .int (iZ fa), .int (iZ fb), .int (iZ fc), .int (iZ qr), .int (iZ fo), .ref zo])), (zs, .inl (cI, 12, .inl (aI u.2.1))), (zc, .inl (cI, 32768, .inl (aI u.2.2)))]) A) ([.ref hm, .int (iZ f), .int (iZ a), .int (iZ b), .int (iZ g)] : List Value).toArray s 0 0 A) (F0 m 92 ls []) := by
              intro n_92
              induction n_92 with
              | zero => intro k_ K i1 i2 i3 hm; exact absurd hm (by omega)
              | succ n_92 ih_92 =>
                intro k_ K i1 i2 i3 hm_92 H locs hP hD hS ls hl
                refine lv_iload hx hb d_Mo_font_92 (lv_at hl 5 rfl) ?_
                refine lv_sipush (v := iZ (8192)) hx hb d_Mo_font_94 (by decide) ?_
                refine zi_ge (tgt := 120) hx hb d_Mo_font_97 (by decide) (by omega) (by omega) (by omega) (by omega) (fun c_97 => ?_) (fun c_97 => ?_)
                · exact W.vret hx hb hr (fun t ht hW => ⟨⟨((0, upZ (upZ (upZ Sz (3 * f) (iZ a)) ((3 * f) + 1) (iZ b)) ((3 * f) + 2) (iZ g), K)), rfl, Or.inl ⟨by omega, rfl, rfl, fun k k0 k1 => by rw [show (8192 : Int) * f + 8192 = 8192 * f + k_ by omega]; exact i3 k k0 k1⟩, by rw [ht]; exact hP, va_K.moved hW.alike hK, hD⟩, hS.F ht⟩) hS.2.2 d_Mo_font_120
                · refine lv_aload_n hx hb d_Mo_font_100 rfl (lv_at hl 0 rfl) ?_
                  refine va_get (D := (dC, dI)) (ci := 6) (v := .ref zc) (C := R_Mo) (T := T_Mo) (N := 18) hx hb hts wi_Mo hown hK hP 0 rfl rfl 9 (by decide) (hts _ t_693) (fun _ h9 => h9) rfl d_Mo_font_101 ?_
                  refine lv_sipush (v := iZ (8192)) hx hb d_Mo_font_104 (by decide) ?_
                  refine lv_iload_n hx hb d_Mo_font_107 rfl (lv_at hl 1 rfl) ?_
                  refine zi_mul hx hb d_Mo_font_108 ?_
                  refine lv_iload hx hb d_Mo_font_109 (lv_at hl 5 rfl) ?_
                  refine zi_add hx hb d_Mo_font_111 ?_
                  refine lv_iconst (v := iZ (0)) hx hb d_Mo_font_112 rfl ?_
                  refine z_iast hx hb hK hP hD hS 2 0 rfl rfl (by omega) (by omega) (by omega) d_Mo_font_113 (fun H locs hP hD hS => ?_)
                  have hP : va_P (dC, dI) vwCl [(hm, .inr (6, [.int (iZ 0), .int (iZ w), .int (iZ h), .int (iZ mn), .ref zd, .ref zb, .ref zt, .int (iZ n), .ref zs, .ref zc, .int (iZ fx), .int (iZ fy), .int (iZ fa), .int (iZ fb), .int (iZ fc), .int (iZ qr), .int (iZ fo), .ref zo])), (zs, .inl (cI, 12, .inl (aI (upZ (upZ (upZ Sz (3 * f) (iZ a)) ((3 * f) + 1) (iZ b)) ((3 * f) + 2) (iZ g))))), (zc, .inl (cI, 32768, .inl (aI (upZ K ((8192 * f) + k_) (iZ 0)))))] H := hP
                  have hD : va_D A [(hm, .inr (6, [.int (iZ 0), .int (iZ w), .int (iZ h), .int (iZ mn), .ref zd, .ref zb, .ref zt, .int (iZ n), .ref zs, .ref zc, .int (iZ fx), .int (iZ fy), .int (iZ fa), .int (iZ fb), .int (iZ fc), .int (iZ qr), .int (iZ fo), .ref zo])), (zs, .inl (cI, 12, .inl (aI (upZ (upZ (upZ Sz (3 * f) (iZ a)) ((3 * f) + 1) (iZ b)) ((3 * f) + 2) (iZ g))))), (zc, .inl (cI, 32768, .inl (aI (upZ K ((8192 * f) + k_) (iZ 0)))))] := hD
                  refine lv_iinc (v := iZ (k_ + 1)) (lv' := [(5, .int (iZ (k_ + 1))), (0, .ref hm), (1, .int (iZ f)), (2, .int (iZ a)), (3, .int (iZ b)), (4, .int (iZ g))]) hx hb d_Mo_font_114 hl (k := 5) rfl (iZ_add _ _) (by decide) rfl (fun ls hl => ?_)
                  refine lv_goto (tgt := 92) hx hb d_Mo_font_117 (by decide) ?_
                  exact ih_92 (k_ + 1) (upZ K ((8192 * f) + k_) (iZ 0)) (by omega) (by omega) (fun k k0 k1 => by by_cases q : k = 8192 * f + k_; (rw [q, upZ_s, if_pos (by omega)]); (rw [upZ_n _ _ q, i3 k k0 k1]; by_cases q2 : 8192 * f ≤ k ∧ k < 8192 * f + k_; (rw [if_pos q2, if_pos (by omega)]); (rw [if_neg q2, if_neg (by omega)]))) (by omega) _ _ hP hD hS ls (lv_sub hl [1, 2, 3, 4, 5, 0] rfl)
            exact LP_92 _ 0 Ce (by omega) (by omega) (fun k k0 k1 => by rw [if_neg (by omega)]) (Nat.lt_succ_self _) _ _ hP hD hS ls (lv_sub hl [1, 2, 3, 4, 5, 0] rfl)
          · exact absurd c_53 (by omega)
        · have c_38 := of_decide_eq_true c_38
          refine lv_iconst (v := iZ (1)) hx hb d_Mo_font_41 rfl ?_
          refine lv_goto (tgt := 46) hx hb d_Mo_font_42 (by decide) ?_
          refine va_put (D := (dC, dI)) (ci := 6) (v := .int (iZ 1)) (ty := .int) (C := R_Mo) (T := T_Mo) (N := 18) hx hb hts wi_Mo ty_Mo ty_Mo_ok nd_Mo hown hK hP hD hS 0 rfl rfl 0 (by decide) (hts _ t_684) (fun _ h9 => h9) rfl (by decide +kernel) rfl rfl (Nat.le_of_ble_eq_true rfl) d_Mo_font_46 (fun H locs hP hD hS => ?_)
          have hP : va_P (dC, dI) vwCl [(hm, .inr (6, [.int (iZ 1), .int (iZ w), .int (iZ h), .int (iZ mn), .ref zd, .ref zb, .ref zt, .int (iZ n), .ref zs, .ref zc, .int (iZ fx), .int (iZ fy), .int (iZ fa), .int (iZ fb), .int (iZ fc), .int (iZ qr), .int (iZ fo), .ref zo])), (zs, .inl (cI, 12, .inl (aI Sz))), (zc, .inl (cI, 32768, .inl (aI Ce)))] H := hP
          have hD : va_D A [(hm, .inr (6, [.int (iZ 1), .int (iZ w), .int (iZ h), .int (iZ mn), .ref zd, .ref zb, .ref zt, .int (iZ n), .ref zs, .ref zc, .int (iZ fx), .int (iZ fy), .int (iZ fa), .int (iZ fb), .int (iZ fc), .int (iZ qr), .int (iZ fo), .ref zo])), (zs, .inl (cI, 12, .inl (aI Sz))), (zc, .inl (cI, 32768, .inl (aI Ce)))] := hD
          refine lv_aload_n hx hb d_Mo_font_49 rfl (lv_at hl 0 rfl) ?_
          refine va_get (D := (dC, dI)) (ci := 6) (v := .int (iZ 1)) (C := R_Mo) (T := T_Mo) (N := 18) hx hb hts wi_Mo hown hK hP 0 rfl rfl 0 (by decide) (hts _ t_684) (fun _ h9 => h9) rfl d_Mo_font_50 ?_
          refine zi_if_le (tgt := 57) hx hb d_Mo_font_53 (by decide) (by omega) (by omega) (fun c_53 => ?_) (fun c_53 => ?_)
          · exact absurd c_53 (by omega)
          · exact W.vret hx hb hr (fun t ht hW => ⟨⟨((1, Sz, Ce)), rfl, Or.inr ⟨by omega, rfl, rfl, rfl⟩, by rw [ht]; exact hP, va_K.moved hW.alike hK, hD⟩, hS.F ht⟩) hS.2.2 d_Mo_font_56
theorem d_Mo_cell_0 : decode c_yMo_cell 0 = .ok (.aload_n 0, 1) := by decide +kernel
theorem d_Mo_cell_1 : decode c_yMo_cell 1 = .ok (.iload_n 1, 1) := by decide +kernel
theorem d_Mo_cell_2 : decode c_yMo_cell 2 = .ok (.iconst 0, 1) := by decide +kernel
theorem d_Mo_cell_3 : decode c_yMo_cell 3 = .ok (.iconst 3, 1) := by decide +kernel
theorem d_Mo_cell_4 : decode c_yMo_cell 4 = .ok (.invokestatic 121, 3) := by decide +kernel
theorem d_Mo_cell_7 : decode c_yMo_cell 7 = .ok (.ifCond .ne 14, 3) := by decide +kernel
theorem d_Mo_cell_10 : decode c_yMo_cell 10 = .ok (.iload_n 2, 1) := by decide +kernel
theorem d_Mo_cell_11 : decode c_yMo_cell 11 = .ok (.iconst 0, 1) := by decide +kernel
theorem d_Mo_cell_12 : decode c_yMo_cell 12 = .ok (.sipush 255, 3) := by decide +kernel
theorem d_Mo_cell_15 : decode c_yMo_cell 15 = .ok (.invokestatic 121, 3) := by decide +kernel
theorem d_Mo_cell_18 : decode c_yMo_cell 18 = .ok (.ifCond .eq 7, 3) := by decide +kernel
theorem d_Mo_cell_21 : decode c_yMo_cell 21 = .ok (.iconst 1, 1) := by decide +kernel
theorem d_Mo_cell_22 : decode c_yMo_cell 22 = .ok (.goto 28, 3) := by decide +kernel
theorem d_Mo_cell_25 : decode c_yMo_cell 25 = .ok (.iload_n 3, 1) := by decide +kernel
theorem d_Mo_cell_26 : decode c_yMo_cell 26 = .ok (.iconst 0, 1) := by decide +kernel
theorem d_Mo_cell_27 : decode c_yMo_cell 27 = .ok (.aload_n 0, 1) := by decide +kernel
theorem d_Mo_cell_28 : decode c_yMo_cell 28 = .ok (.getfield 27, 3) := by decide +kernel
theorem d_Mo_cell_31 : decode c_yMo_cell 31 = .ok (.iconst 3, 1) := by decide +kernel
theorem d_Mo_cell_32 : decode c_yMo_cell 32 = .ok (.iload_n 1, 1) := by decide +kernel
theorem d_Mo_cell_33 : decode c_yMo_cell 33 = .ok (.imul, 1) := by decide +kernel
theorem d_Mo_cell_34 : decode c_yMo_cell 34 = .ok (.iconst 1, 1) := by decide +kernel
theorem d_Mo_cell_35 : decode c_yMo_cell 35 = .ok (.iadd, 1) := by decide +kernel
theorem d_Mo_cell_36 : decode c_yMo_cell 36 = .ok (.iaload, 1) := by decide +kernel
theorem d_Mo_cell_37 : decode c_yMo_cell 37 = .ok (.iconst 1, 1) := by decide +kernel
theorem d_Mo_cell_38 : decode c_yMo_cell 38 = .ok (.isub, 1) := by decide +kernel
theorem d_Mo_cell_39 : decode c_yMo_cell 39 = .ok (.invokestatic 121, 3) := by decide +kernel
theorem d_Mo_cell_42 : decode c_yMo_cell 42 = .ok (.ifCond .eq 7, 3) := by decide +kernel
theorem d_Mo_cell_45 : decode c_yMo_cell 45 = .ok (.iconst 2, 1) := by decide +kernel
theorem d_Mo_cell_46 : decode c_yMo_cell 46 = .ok (.goto 4, 3) := by decide +kernel
theorem d_Mo_cell_49 : decode c_yMo_cell 49 = .ok (.iconst 0, 1) := by decide +kernel
theorem d_Mo_cell_50 : decode c_yMo_cell 50 = .ok (.putfield 37, 3) := by decide +kernel
theorem d_Mo_cell_53 : decode c_yMo_cell 53 = .ok (.aload_n 0, 1) := by decide +kernel
theorem d_Mo_cell_54 : decode c_yMo_cell 54 = .ok (.getfield 37, 3) := by decide +kernel
theorem d_Mo_cell_57 : decode c_yMo_cell 57 = .ok (.ifCond .ne 22, 3) := by decide +kernel
theorem d_Mo_cell_60 : decode c_yMo_cell 60 = .ok (.aload_n 0, 1) := by decide +kernel
theorem d_Mo_cell_61 : decode c_yMo_cell 61 = .ok (.getfield 30, 3) := by decide +kernel
theorem d_Mo_cell_64 : decode c_yMo_cell 64 = .ok (.sipush 8192, 3) := by decide +kernel
theorem d_Mo_cell_67 : decode c_yMo_cell 67 = .ok (.iload_n 1, 1) := by decide +kernel
theorem d_Mo_cell_68 : decode c_yMo_cell 68 = .ok (.imul, 1) := by decide +kernel
theorem d_Mo_cell_69 : decode c_yMo_cell 69 = .ok (.bipush 32, 2) := by decide +kernel
theorem d_Mo_cell_71 : decode c_yMo_cell 71 = .ok (.iload_n 2, 1) := by decide +kernel
theorem d_Mo_cell_72 : decode c_yMo_cell 72 = .ok (.imul, 1) := by decide +kernel
theorem d_Mo_cell_73 : decode c_yMo_cell 73 = .ok (.iadd, 1) := by decide +kernel
theorem d_Mo_cell_74 : decode c_yMo_cell 74 = .ok (.iload_n 3, 1) := by decide +kernel
theorem d_Mo_cell_75 : decode c_yMo_cell 75 = .ok (.iadd, 1) := by decide +kernel
theorem d_Mo_cell_76 : decode c_yMo_cell 76 = .ok (.iload 4, 2) := by decide +kernel
theorem d_Mo_cell_78 : decode c_yMo_cell 78 = .ok (.iastore, 1) := by decide +kernel
theorem d_Mo_cell_79 : decode c_yMo_cell 79 = .ok (.return_, 1) := by decide +kernel
set_option maxHeartbeats 4000000 in
set_option maxRecDepth 100000 in
theorem c_Model_cell (l : Launch) (dC : Nat → ClassId) (dI : Nat → Nat → Nat) (hm zd zb zt zs zc zo : Nat) (tw w h mn n fx fy fa fb fc qr fo : Int) (cI : ClassId) (Sz Ce : Int → Int32) (fh f cd r0 : Int) (bits : Int32) (sz : Nat) (hz : 0 ≤ f ∧ f ≤ 3 → Sz (3 * f + 1) = iZ fh ∧ 1 ≤ fh ∧ fh ≤ 32) (f1 : -2147483648 ≤ f) (cd1 : -2147483648 ≤ cd) (r01 : -2147483648 ≤ r0) (f2 : f ≤ 2147483647) (cd2 : cd ≤ 2147483647) (r02 : r0 ≤ 2147483647) : Met l y_Mo_cell w_Mo_cell ({ frames := 1, cells := 0, slots := 0, locals := 22 }) (va_Pc [.ref hm, .int (iZ f), .int (iZ cd), .int (iZ r0), .int bits] (zPm (dC, dI) vwCl [(hm, .inr (6, [.int (iZ tw), .int (iZ w), .int (iZ h), .int (iZ mn), .ref zd, .ref zb, .ref zt, .int (iZ n), .ref zs, .ref zc, .int (iZ fx), .int (iZ fy), .int (iZ fa), .int (iZ fb), .int (iZ fc), .int (iZ qr), .int (iZ fo), .ref zo])), (zs, .inl (cI, 12, .inl (aI Sz))), (zc, .inl (cI, 32768, .inl (aI Ce)))] [(cI, .int)] sz)) (va_Qv (fun (u : Int × (Int → Int32)) => ((0 ≤ f ∧ f ≤ 3 ∧ 0 ≤ cd ∧ cd ≤ 255) ∧ (0 ≤ r0 ∧ r0 ≤ fh - 1) ∧ u.1 = 0 ∧ u.2 = upZ Ce (8192 * f + 32 * cd + r0) bits) ∨ (¬ (0 ≤ f ∧ f ≤ 3 ∧ 0 ≤ cd ∧ cd ≤ 255) ∧ u.1 = 1 ∧ u.2 = Ce) ∨ ((0 ≤ f ∧ f ≤ 3 ∧ 0 ≤ cd ∧ cd ≤ 255) ∧ ¬ (0 ≤ r0 ∧ r0 ≤ fh - 1) ∧ u.1 = 2 ∧ u.2 = Ce)) (fun u => zB (dC, dI) vwCl [(cI, .int)] (va_A [(hm, .inr (6, [.int (iZ tw), .int (iZ w), .int (iZ h), .int (iZ mn), .ref zd, .ref zb, .ref zt, .int (iZ n), .ref zs, .ref zc, .int (iZ fx), .int (iZ fy), .int (iZ fa), .int (iZ fb), .int (iZ fc), .int (iZ qr), .int (iZ fo), .ref zo])), (zs, .inl (cI, 12, .inl (aI Sz))), (zc, .inl (cI, 32768, .inl (aI Ce)))] sz) [(hm, .inr (6, [.int (iZ u.1), .int (iZ w), .int (iZ h), .int (iZ mn), .ref zd, .ref zb, .ref zt, .int (iZ n), .ref zs, .ref zc, .int (iZ fx), .int (iZ fy), .int (iZ fa), .int (iZ fb), .int (iZ fc), .int (iZ qr), .int (iZ fo), .ref zo])), (zs, .inl (cI, 12, .inl (aI Sz))), (zc, .inl (cI, 32768, .inl (aI u.2)))]) (va_A [(hm, .inr (6, [.int (iZ tw), .int (iZ w), .int (iZ h), .int (iZ mn), .ref zd, .ref zb, .ref zt, .int (iZ n), .ref zs, .ref zc, .int (iZ fx), .int (iZ fy), .int (iZ fa), .int (iZ fb), .int (iZ fc), .int (iZ qr), .int (iZ fo), .ref zo])), (zs, .inl (cI, 12, .inl (aI Sz))), (zc, .inl (cI, 32768, .inl (aI Ce)))] sz)) 0 0 (va_A [(hm, .inr (6, [.int (iZ tw), .int (iZ w), .int (iZ h), .int (iZ mn), .ref zd, .ref zb, .ref zt, .int (iZ n), .ref zs, .ref zc, .int (iZ fx), .int (iZ fy), .int (iZ fa), .int (iZ fb), .int (iZ fc), .int (iZ qr), .int (iZ fo), .ref zo])), (zs, .inl (cI, 12, .inl (aI Sz))), (zc, .inl (cI, 32768, .inl (aI Ce)))] sz) := by
  refine Met.ofW (cc := c_yMo_cell) (maxL := 5) (ret := none) (by decide) rfl ?_
  intro p e s m args below meth c s₁ B hml hv
  obtain ⟨rfl, hsz, hP, hK, hD0⟩ := hv
  have hx := B.exec
  have hb := B.bytes
  have hr := B.returns
  have hts0 := atoms_spec (ws := w_Mo_cell) B.pre
  have hts : ∀ w ∈ gT, w.before _ s = true := fun w h => hts0 w (List.mem_cons_of_mem _ h)
  have hown : s.vm.findClass R_Mo = some m.cls := findClass_of_methodNamed B.named
  have hlocks := B.notSynchronized
  subst hsz
  have hD := hD0.self (sz := s.heap.size)
  generalize hAe : va_A [(hm, .inr (6, [.int (iZ tw), .int (iZ w), .int (iZ h), .int (iZ mn), .ref zd, .ref zb, .ref zt, .int (iZ n), .ref zs, .ref zc, .int (iZ fx), .int (iZ fy), .int (iZ fa), .int (iZ fb), .int (iZ fc), .int (iZ qr), .int (iZ fo), .ref zo])), (zs, .inl (cI, 12, .inl (aI Sz))), (zc, .inl (cI, 32768, .inl (aI Ce)))] s.heap.size = A at hD ⊢
  have hA : ∀ q : Nat, s.heap.size ≤ q → A q := fun q h => by rw [← hAe]; exact Or.inr h
  obtain ⟨H, hH⟩ : ∃ H, s.heap = H := ⟨_, rfl⟩
  have hS : va_S A s.heap H [] := by rw [← hH]; exact va_S.rf
  rw [hH] at hP
  rw [hH]
  have hl := lv_entry ([.ref hm, .int (iZ f), .int (iZ cd), .int (iZ r0), .int bits]) (n := 5) (Nat.le_of_ble_eq_true rfl)
  rw [lg_entry_eq]
  generalize (lg_sl ([.ref hm, .int (iZ f), .int (iZ cd), .int (iZ r0), .int bits]) ++ List.replicate (5 - (lg_sl ([.ref hm, .int (iZ f), .int (iZ cd), .int (iZ r0), .int bits])).length) Slot.unset).toArray = ls at hl ⊢
  have hl : lv_has ls 5 [(0, .ref hm), (1, .int (iZ f)), (2, .int (iZ cd)), (3, .int (iZ r0)), (4, .int bits)] := hl
  refine lv_aload_n hx hb d_Mo_cell_0 rfl (lv_at hl 0 rfl) ?_
  refine lv_iload_n hx hb d_Mo_cell_1 rfl (lv_at hl 1 rfl) ?_
  refine lv_iconst (v := iZ (0)) hx hb d_Mo_cell_2 rfl ?_
  refine lv_iconst (v := iZ (3)) hx hb d_Mo_cell_3 rfl ?_
  refine vp_callSi (va_runS (As := [.int (iZ f), .int (iZ 0), .int (iZ 3)]) (rest := [.ref hm]) ⟨hx, hb, hml, hown, hts⟩ (c_Model_isNot l dC dI f 0 3 (by first | omega | assumption) (by first | omega | assumption) (by first | omega | assumption) (by first | omega | assumption) (by first | omega | assumption) (by first | omega | assumption)) (va_cwS 3 hts (gS t_771 t_772 t_6 t_773) rfl rfl rfl (by decide +kernel) ⟨Nat.le_of_ble_eq_true rfl, Nat.le_of_ble_eq_true rfl⟩) ⟨zPr_blind, zPr_pre hP hK [] [] rfl rfl⟩ rfl rfl hl.1 rfl (lv_room (Nat.le_of_ble_eq_true rfl)) d_Mo_cell_4 ⟨Nat.le_of_ble_eq_true rfl, Nat.le_of_ble_eq_true rfl⟩).run (fun r_4 q_4 => ?_)
  obtain rfl := q_4
  refine zb_if_ne (tgt := 21) hx hb d_Mo_cell_7 (by decide) (fun c_7 => ?_) (fun c_7 => ?_)
  · have c_7 := of_decide_eq_true c_7
    refine lv_iconst (v := iZ (1)) hx hb d_Mo_cell_21 rfl ?_
    refine lv_goto (tgt := 50) hx hb d_Mo_cell_22 (by decide) ?_
    refine va_put (D := (dC, dI)) (ci := 6) (v := .int (iZ 1)) (ty := .int) (C := R_Mo) (T := T_Mo) (N := 18) hx hb hts wi_Mo ty_Mo ty_Mo_ok nd_Mo hown hK hP hD hS 0 rfl rfl 0 (by decide) (hts _ t_684) (fun _ h9 => h9) rfl (by decide +kernel) rfl rfl (Nat.le_of_ble_eq_true rfl) d_Mo_cell_50 (fun H locs hP hD hS => ?_)
    have hP : va_P (dC, dI) vwCl [(hm, .inr (6, [.int (iZ 1), .int (iZ w), .int (iZ h), .int (iZ mn), .ref zd, .ref zb, .ref zt, .int (iZ n), .ref zs, .ref zc, .int (iZ fx), .int (iZ fy), .int (iZ fa), .int (iZ fb), .int (iZ fc), .int (iZ qr), .int (iZ fo), .ref zo])), (zs, .inl (cI, 12, .inl (aI Sz))), (zc, .inl (cI, 32768, .inl (aI Ce)))] H := hP
    have hD : va_D A [(hm, .inr (6, [.int (iZ 1), .int (iZ w), .int (iZ h), .int (iZ mn), .ref zd, .ref zb, .ref zt, .int (iZ n), .ref zs, .ref zc, .int (iZ fx), .int (iZ fy), .int (iZ fa), .int (iZ fb), .int (iZ fc), .int (iZ qr), .int (iZ fo), .ref zo])), (zs, .inl (cI, 12, .inl (aI Sz))), (zc, .inl (cI, 32768, .inl (aI Ce)))] := hD
    refine lv_aload_n hx hb d_Mo_cell_53 rfl (lv_at hl 0 rfl) ?_
    refine va_get (D := (dC, dI)) (ci := 6) (v := .int (iZ 1)) (C := R_Mo) (T := T_Mo) (N := 18) hx hb hts wi_Mo hown hK hP 0 rfl rfl 0 (by decide) (hts _ t_684) (fun _ h9 => h9) rfl d_Mo_cell_54 ?_
    refine zi_if_ne (tgt := 79) hx hb d_Mo_cell_57 (by decide) (by omega) (by omega) (fun c_57 => ?_) (fun c_57 => ?_)
    · exact W.vret hx hb hr (fun t ht hW => ⟨⟨((1, Ce)), rfl, by first | exact Or.inr (Or.inl ⟨by omega, rfl, rfl⟩) | exact Or.inr (Or.inr ⟨by omega, by omega, rfl, rfl⟩) | exact Or.inl ⟨by omega, by omega, rfl, rfl⟩, by rw [ht]; exact hP, va_K.moved hW.alike hK, hD⟩, hS.F ht⟩) hS.2.2 d_Mo_cell_79
    · exact absurd c_57 (by omega)
  · have c_7 := of_decide_eq_false c_7
    refine lv_iload_n hx hb d_Mo_cell_10 rfl (lv_at hl 2 rfl) ?_
    refine lv_iconst (v := iZ (0)) hx hb d_Mo_cell_11 rfl ?_
    refine lv_sipush (v := iZ (255)) hx hb d_Mo_cell_12 (by decide) ?_
    refine vp_callSi (va_runS (As := [.int (iZ cd), .int (iZ 0), .int (iZ 255)]) (rest := [.ref hm]) ⟨hx, hb, hml, hown, hts⟩ (c_Model_isNot l dC dI cd 0 255 (by first | omega | assumption) (by first | omega | assumption) (by first | omega | assumption) (by first | omega | assumption) (by first | omega | assumption) (by first | omega | assumption)) (va_cwS 3 hts (gS t_771 t_772 t_6 t_773) rfl rfl rfl (by decide +kernel) ⟨Nat.le_of_ble_eq_true rfl, Nat.le_of_ble_eq_true rfl⟩) ⟨zPr_blind, zPr_pre hP hK [] [] rfl rfl⟩ rfl rfl hl.1 rfl (lv_room (Nat.le_of_ble_eq_true rfl)) d_Mo_cell_15 ⟨Nat.le_of_ble_eq_true rfl, Nat.le_of_ble_eq_true rfl⟩).run (fun r_15 q_15 => ?_)
    obtain rfl := q_15
    refine zb_if_eq (tgt := 25) hx hb d_Mo_cell_18 (by decide) (fun c_18 => ?_) (fun c_18 => ?_)
    · have c_18 := of_decide_eq_false c_18
      have z8 := hz (by omega)
      refine lv_iload_n hx hb d_Mo_cell_25 rfl (lv_at hl 3 rfl) ?_
      refine lv_iconst (v := iZ (0)) hx hb d_Mo_cell_26 rfl ?_
      refine lv_aload_n hx hb d_Mo_cell_27 rfl (lv_at hl 0 rfl) ?_
      refine va_get (D := (dC, dI)) (ci := 6) (v := .ref zs) (C := R_Mo) (T := T_Mo) (N := 18) hx hb hts wi_Mo hown hK hP 0 rfl rfl 8 (by decide) (hts _ t_692) (fun _ h9 => h9) rfl d_Mo_cell_28 ?_
      refine lv_iconst (v := iZ (3)) hx hb d_Mo_cell_31 rfl ?_
      refine lv_iload_n hx hb d_Mo_cell_32 rfl (lv_at hl 1 rfl) ?_
      refine zi_mul hx hb d_Mo_cell_33 ?_
      refine lv_iconst (v := iZ (1)) hx hb d_Mo_cell_34 rfl ?_
      refine zi_add hx hb d_Mo_cell_35 ?_
      refine z_iald hx hb hK hP 1 0 rfl rfl (by omega) (by omega) (by omega) d_Mo_cell_36 ?_
      refine zn_eq (v2 := .int (iZ fh)) (congrArg Value.int (z8.1)) ?_
      refine lv_iconst (v := iZ (1)) hx hb d_Mo_cell_37 rfl ?_
      refine zi_sub hx hb d_Mo_cell_38 ?_
      refine vp_callSi (va_runS (As := [.int (iZ r0), .int (iZ 0), .int (iZ (fh - 1))]) (rest := [.ref hm]) ⟨hx, hb, hml, hown, hts⟩ (c_Model_isNot l dC dI r0 0 (fh - 1) (by first | omega | assumption) (by first | omega | assumption) (by first | omega | assumption) (by first | omega | assumption) (by first | omega | assumption) (by first | omega | assumption)) (va_cwS 3 hts (gS t_771 t_772 t_6 t_773) rfl rfl rfl (by decide +kernel) ⟨Nat.le_of_ble_eq_true rfl, Nat.le_of_ble_eq_true rfl⟩) ⟨zPr_blind, zPr_pre hP hK [] [] rfl rfl⟩ rfl rfl hl.1 rfl (lv_room (Nat.le_of_ble_eq_true rfl)) d_Mo_cell_39 ⟨Nat.le_of_ble_eq_true rfl, Nat.le_of_ble_eq_true rfl⟩).run (fun r_39 q_39 => ?_)
      obtain rfl := q_39
      refine zb_if_eq (tgt := 49) hx hb d_Mo_cell_42 (by decide) (fun c_42 => ?_) (fun c_42 => ?_)
      · have c_42 := of_decide_eq_false c_42
        refine lv_iconst (v := iZ (0)) hx hb d_Mo_cell_49 rfl ?_
        refine va_put (D := (dC, dI)) (ci := 6) (v := .int (iZ 0)) (ty := .int) (C := R_Mo) (T := T_Mo) (N := 18) hx hb hts wi_Mo ty_Mo ty_Mo_ok nd_Mo hown hK hP hD hS 0 rfl rfl 0 (by decide) (hts _ t_684) (fun _ h9 => h9) rfl (by decide +kernel) rfl rfl (Nat.le_of_ble_eq_true rfl) d_Mo_cell_50 (fun H locs hP hD hS => ?_)
        have hP : va_P (dC, dI) vwCl [(hm, .inr (6, [.int (iZ 0), .int (iZ w), .int (iZ h), .int (iZ mn), .ref zd, .ref zb, .ref zt, .int (iZ n), .ref zs, .ref zc, .int (iZ fx), .int (iZ fy), .int (iZ fa), .int (iZ fb), .int (iZ fc), .int (iZ qr), .int (iZ fo), .ref zo])), (zs, .inl (cI, 12, .inl (aI Sz))), (zc, .inl (cI, 32768, .inl (aI Ce)))] H := hP
        have hD : va_D A [(hm, .inr (6, [.int (iZ 0), .int (iZ w), .int (iZ h), .int (iZ mn), .ref zd, .ref zb, .ref zt, .int (iZ n), .ref zs, .ref zc, .int (iZ fx), .int (iZ fy), .int (iZ fa), .int (iZ fb), .int (iZ fc), .int (iZ qr), .int (iZ fo), .ref zo])), (zs, .inl (cI, 12, .inl (aI Sz))), (zc, .inl (cI, 32768, .inl (aI Ce)))] := hD
        refine lv_aload_n hx hb d_Mo_cell_53 rfl (lv_at hl 0 rfl) ?_
        refine va_get (D := (dC, dI)) (ci := 6) (v := .int (iZ 0)) (C := R_Mo) (T := T_Mo) (N := 18) hx hb hts wi_Mo hown hK hP 0 rfl rfl 0 (by decide) (hts _ t_684) (fun _ h9 => h9) rfl d_Mo_cell_54 ?_
        refine zi_if_ne (tgt := 79) hx hb d_Mo_cell_57 (by decide) (by omega) (by omega) (fun c_57 => ?_) (fun c_57 => ?_)
        · exact absurd c_57 (by omega)
        · refine lv_aload_n hx hb d_Mo_cell_60 rfl (lv_at hl 0 rfl) ?_
          refine va_get (D := (dC, dI)) (ci := 6) (v := .ref zc) (C := R_Mo) (T := T_Mo) (N := 18) hx hb hts wi_Mo hown hK hP 0 rfl rfl 9 (by decide) (hts _ t_693) (fun _ h9 => h9) rfl d_Mo_cell_61 ?_
          refine lv_sipush (v := iZ (8192)) hx hb d_Mo_cell_64 (by decide) ?_
          refine lv_iload_n hx hb d_Mo_cell_67 rfl (lv_at hl 1 rfl) ?_
          refine zi_mul hx hb d_Mo_cell_68 ?_
          refine lv_bipush (v := iZ (32)) hx hb d_Mo_cell_69 (by decide) ?_
          refine lv_iload_n hx hb d_Mo_cell_71 rfl (lv_at hl 2 rfl) ?_
          refine zi_mul hx hb d_Mo_cell_72 ?_
          refine zi_add hx hb d_Mo_cell_73 ?_
          refine lv_iload_n hx hb d_Mo_cell_74 rfl (lv_at hl 3 rfl) ?_
          refine zi_add hx hb d_Mo_cell_75 ?_
          refine lv_iload hx hb d_Mo_cell_76 (lv_at hl 4 rfl) ?_
          refine z_iast hx hb hK hP hD hS 2 0 rfl rfl (by omega) (by omega) (by omega) d_Mo_cell_78 (fun H locs hP hD hS => ?_)
          have hP : va_P (dC, dI) vwCl [(hm, .inr (6, [.int (iZ 0), .int (iZ w), .int (iZ h), .int (iZ mn), .ref zd, .ref zb, .ref zt, .int (iZ n), .ref zs, .ref zc, .int (iZ fx), .int (iZ fy), .int (iZ fa), .int (iZ fb), .int (iZ fc), .int (iZ qr), .int (iZ fo), .ref zo])), (zs, .inl (cI, 12, .inl (aI Sz))), (zc, .inl (cI, 32768, .inl (aI (upZ Ce (((8192 * f) + (32 * cd)) + r0) bits))))] H := hP
          have hD : va_D A [(hm, .inr (6, [.int (iZ 0), .int (iZ w), .int (iZ h), .int (iZ mn), .ref zd, .ref zb, .ref zt, .int (iZ n), .ref zs, .ref zc, .int (iZ fx), .int (iZ fy), .int (iZ fa), .int (iZ fb), .int (iZ fc), .int (iZ qr), .int (iZ fo), .ref zo])), (zs, .inl (cI, 12, .inl (aI Sz))), (zc, .inl (cI, 32768, .inl (aI (upZ Ce (((8192 * f) + (32 * cd)) + r0) bits))))] := hD
          exact W.vret hx hb hr (fun t ht hW => ⟨⟨((0, upZ Ce (((8192 * f) + (32 * cd)) + r0) bits)), rfl, by first | exact Or.inr (Or.inl ⟨by omega, rfl, rfl⟩) | exact Or.inr (Or.inr ⟨by omega, by omega, rfl, rfl⟩) | exact Or.inl ⟨by omega, by omega, rfl, rfl⟩, by rw [ht]; exact hP, va_K.moved hW.alike hK, hD⟩, hS.F ht⟩) hS.2.2 d_Mo_cell_79
      · have c_42 := of_decide_eq_true c_42
        refine lv_iconst (v := iZ (2)) hx hb d_Mo_cell_45 rfl ?_
        refine lv_goto (tgt := 50) hx hb d_Mo_cell_46 (by decide) ?_
        refine va_put (D := (dC, dI)) (ci := 6) (v := .int (iZ 2)) (ty := .int) (C := R_Mo) (T := T_Mo) (N := 18) hx hb hts wi_Mo ty_Mo ty_Mo_ok nd_Mo hown hK hP hD hS 0 rfl rfl 0 (by decide) (hts _ t_684) (fun _ h9 => h9) rfl (by decide +kernel) rfl rfl (Nat.le_of_ble_eq_true rfl) d_Mo_cell_50 (fun H locs hP hD hS => ?_)
        have hP : va_P (dC, dI) vwCl [(hm, .inr (6, [.int (iZ 2), .int (iZ w), .int (iZ h), .int (iZ mn), .ref zd, .ref zb, .ref zt, .int (iZ n), .ref zs, .ref zc, .int (iZ fx), .int (iZ fy), .int (iZ fa), .int (iZ fb), .int (iZ fc), .int (iZ qr), .int (iZ fo), .ref zo])), (zs, .inl (cI, 12, .inl (aI Sz))), (zc, .inl (cI, 32768, .inl (aI Ce)))] H := hP
        have hD : va_D A [(hm, .inr (6, [.int (iZ 2), .int (iZ w), .int (iZ h), .int (iZ mn), .ref zd, .ref zb, .ref zt, .int (iZ n), .ref zs, .ref zc, .int (iZ fx), .int (iZ fy), .int (iZ fa), .int (iZ fb), .int (iZ fc), .int (iZ qr), .int (iZ fo), .ref zo])), (zs, .inl (cI, 12, .inl (aI Sz))), (zc, .inl (cI, 32768, .inl (aI Ce)))] := hD
        refine lv_aload_n hx hb d_Mo_cell_53 rfl (lv_at hl 0 rfl) ?_
        refine va_get (D := (dC, dI)) (ci := 6) (v := .int (iZ 2)) (C := R_Mo) (T := T_Mo) (N := 18) hx hb hts wi_Mo hown hK hP 0 rfl rfl 0 (by decide) (hts _ t_684) (fun _ h9 => h9) rfl d_Mo_cell_54 ?_
        refine zi_if_ne (tgt := 79) hx hb d_Mo_cell_57 (by decide) (by omega) (by omega) (fun c_57 => ?_) (fun c_57 => ?_)
        · exact W.vret hx hb hr (fun t ht hW => ⟨⟨((2, Ce)), rfl, by first | exact Or.inr (Or.inl ⟨by omega, rfl, rfl⟩) | exact Or.inr (Or.inr ⟨by omega, by omega, rfl, rfl⟩) | exact Or.inl ⟨by omega, by omega, rfl, rfl⟩, by rw [ht]; exact hP, va_K.moved hW.alike hK, hD⟩, hS.F ht⟩) hS.2.2 d_Mo_cell_79
        · exact absurd c_57 (by omega)
    · have c_18 := of_decide_eq_true c_18
      refine lv_iconst (v := iZ (1)) hx hb d_Mo_cell_21 rfl ?_
      refine lv_goto (tgt := 50) hx hb d_Mo_cell_22 (by decide) ?_
      refine va_put (D := (dC, dI)) (ci := 6) (v := .int (iZ 1)) (ty := .int) (C := R_Mo) (T := T_Mo) (N := 18) hx hb hts wi_Mo ty_Mo ty_Mo_ok nd_Mo hown hK hP hD hS 0 rfl rfl 0 (by decide) (hts _ t_684) (fun _ h9 => h9) rfl (by decide +kernel) rfl rfl (Nat.le_of_ble_eq_true rfl) d_Mo_cell_50 (fun H locs hP hD hS => ?_)
      have hP : va_P (dC, dI) vwCl [(hm, .inr (6, [.int (iZ 1), .int (iZ w), .int (iZ h), .int (iZ mn), .ref zd, .ref zb, .ref zt, .int (iZ n), .ref zs, .ref zc, .int (iZ fx), .int (iZ fy), .int (iZ fa), .int (iZ fb), .int (iZ fc), .int (iZ qr), .int (iZ fo), .ref zo])), (zs, .inl (cI, 12, .inl (aI Sz))), (zc, .inl (cI, 32768, .inl (aI Ce)))] H := hP
      have hD : va_D A [(hm, .inr (6, [.int (iZ 1), .int (iZ w), .int (iZ h), .int (iZ mn), .ref zd, .ref zb, .ref zt, .int (iZ n), .ref zs, .ref zc, .int (iZ fx), .int (iZ fy), .int (iZ fa), .int (iZ fb), .int (iZ fc), .int (iZ qr), .int (iZ fo), .ref zo])), (zs, .inl (cI, 12, .inl (aI Sz))), (zc, .inl (cI, 32768, .inl (aI Ce)))] := hD
      refine lv_aload_n hx hb d_Mo_cell_53 rfl (lv_at hl 0 rfl) ?_
      refine va_get (D := (dC, dI)) (ci := 6) (v := .int (iZ 1)) (C := R_Mo) (T := T_Mo) (N := 18) hx hb hts wi_Mo hown hK hP 0 rfl rfl 0 (by decide) (hts _ t_684) (fun _ h9 => h9) rfl d_Mo_cell_54 ?_
      refine zi_if_ne (tgt := 79) hx hb d_Mo_cell_57 (by decide) (by omega) (by omega) (fun c_57 => ?_) (fun c_57 => ?_)
      · exact W.vret hx hb hr (fun t ht hW => ⟨⟨((1, Ce)), rfl, by first | exact Or.inr (Or.inl ⟨by omega, rfl, rfl⟩) | exact Or.inr (Or.inr ⟨by omega, by omega, rfl, rfl⟩) | exact Or.inl ⟨by omega, by omega, rfl, rfl⟩, by rw [ht]; exact hP, va_K.moved hW.alike hK, hD⟩, hS.F ht⟩) hS.2.2 d_Mo_cell_79
      · exact absurd c_57 (by omega)
